def sh_X8 (g : zGx) (q : Nat) (u : cU) : va_W := (q, .inr (7, [.ref (u.1 0), .int (0 : Int32), .int (0 : Int32), .long 0])) :: ([] ++ [(u.1 0, .inl (g.2.1, 40, .inl (fun _ => 0)))])
abbrev rm_X8_init : Room := { frames := 1, cells := 1, slots := 40, locals := 12 }
theorem m_X8_init_oi1 : Cond.methodLink RX8 3 objectInit ∈ wsX8_init := List.mem_cons_of_mem _ (List.mem_append_left _ (List.mem_of_getElem? (i := 0) rfl))
theorem m_X8_init_oi2 : Cond.instanceMethod objectInit ∈ wsX8_init := List.mem_cons_of_mem _ (List.mem_append_left _ (List.mem_of_getElem? (i := 1) rfl))
theorem m_X8_init_oi3 : Cond.code objectInit ⟨#[0xb1]⟩ 1 none ∈ wsX8_init := List.mem_cons_of_mem _ (List.mem_append_left _ (List.mem_of_getElem? (i := 2) rfl))
theorem m_X8_init_acint : Cond.arrayClass .int ∈ wsX8_init := List.mem_cons_of_mem _ (List.mem_append_left _ (List.mem_of_getElem? (i := 3) rfl))
theorem m_X8_init_f11 : Cond.fieldLink RX8 11 "LongestMet$Text" "bytes" "[I" ∈ wsX8_init := List.mem_cons_of_mem _ (List.mem_append_left _ (List.mem_of_getElem? (i := 4) rfl))
theorem m_X8_init_inX8 : ∀ x ∈ u_ws RX8 TX8 4, x ∈ wsX8_init := fun _ h => List.mem_cons_of_mem _ (List.mem_append_right _ h)
theorem m_X8_init_f15 : Cond.fieldLink RX8 15 "LongestMet$Text" "length" "I" ∈ wsX8_init := List.mem_cons_of_mem _ (List.mem_append_left _ (List.mem_of_getElem? (i := 5) rfl))
theorem m_X8_init_f19 : Cond.fieldLink RX8 19 "LongestMet$Text" "place" "I" ∈ wsX8_init := List.mem_cons_of_mem _ (List.mem_append_left _ (List.mem_of_getElem? (i := 6) rfl))
theorem m_X8_init_f22 : Cond.fieldLink RX8 22 "LongestMet$Text" "minutes" "J" ∈ wsX8_init := List.mem_cons_of_mem _ (List.mem_append_left _ (List.mem_of_getElem? (i := 7) rfl))
set_option maxRecDepth 100000 in
set_option maxHeartbeats 4000000 in
theorem k_X8_init {l : Launch} {D : va_G} {g : zGx} : cMet l D (zT g) yX8_init wsX8_init rm_X8_init (.inr (7, [.null, .int 0, .int 0, .long 0])) (sh_X8 g) 1 40 := by
  refine cmet_of (by decide +kernel) rfl rfl (Nat.le_of_ble_eq_true rfl) (fun E A q sz hl hD hE B hi0 hA hsz => ?_)
  refine c_aload_n B 0 dX8_init_0 rfl rfl ?_
  refine c_objInit B m_X8_init_oi1 m_X8_init_oi2 m_X8_init_oi3 (Nat.le_of_ble_eq_true rfl) (Nat.le_of_ble_eq_true rfl) dX8_init_1 ?_
  refine c_aload_n B 0 dX8_init_4 rfl rfl ?_
  refine c_bipush B (40 : Int32) dX8_init_5 (by decide) ?_
  refine c_newI B 0 40 rfl m_X8_init_acint (by decide) (by decide) (Nat.le_of_ble_eq_true rfl) (Nat.le_of_ble_eq_true rfl) (Nat.le_of_ble_eq_true rfl) dX8_init_7 (fun p0 => ?_)
  show cJ E A _ ((q, .inr (7, [.null, .int 0, .int 0, .long 0])) :: ([] ++ [(p0, .inl (g.2.1, 40, .inl (fun _ => 0)))])) 1 40 9 [(0, .ref q)] [.ref p0, .ref q]
  refine c_putF (ty := (.array .int)) B hi0 7 0 tyX8 tyX8_ok nmX8 rfl m_X8_init_inX8 (Nat.le_of_ble_eq_true rfl) m_X8_init_f11 rfl rfl (by decide +kernel) rfl rfl (Nat.le_of_ble_eq_true rfl) dX8_init_9 ?_
  show cJ E A _ ((q, .inr (7, [.ref p0, .int 0, .int 0, .long 0])) :: ([] ++ [(p0, .inl (g.2.1, 40, .inl (fun _ => 0)))])) 1 40 12 [(0, .ref q)] []
  refine c_aload_n B 0 dX8_init_12 rfl rfl ?_
  refine c_iconst B (0 : Int32) dX8_init_13 (by decide) ?_
  refine c_put (ty := .int) B 7 1 tyX8 tyX8_ok nmX8 rfl m_X8_init_inX8 (Nat.le_of_ble_eq_true rfl) m_X8_init_f15 rfl (by decide +kernel) rfl rfl (Nat.le_of_ble_eq_true rfl) dX8_init_14 ?_
  show cJ E A _ ((q, .inr (7, [.ref p0, .int (0 : Int32), .int 0, .long 0])) :: ([] ++ [(p0, .inl (g.2.1, 40, .inl (fun _ => 0)))])) 1 40 17 [(0, .ref q)] []
  refine c_aload_n B 0 dX8_init_17 rfl rfl ?_
  refine c_iconst B (0 : Int32) dX8_init_18 (by decide) ?_
  refine c_put (ty := .int) B 7 2 tyX8 tyX8_ok nmX8 rfl m_X8_init_inX8 (Nat.le_of_ble_eq_true rfl) m_X8_init_f19 rfl (by decide +kernel) rfl rfl (Nat.le_of_ble_eq_true rfl) dX8_init_19 ?_
  show cJ E A _ ((q, .inr (7, [.ref p0, .int (0 : Int32), .int (0 : Int32), .long 0])) :: ([] ++ [(p0, .inl (g.2.1, 40, .inl (fun _ => 0)))])) 1 40 22 [(0, .ref q)] []
  refine c_aload_n B 0 dX8_init_22 rfl rfl ?_
  refine c_lconst B 0 dX8_init_23 (by decide) ?_
  refine c_put (ty := .long) B 7 3 tyX8 tyX8_ok nmX8 rfl m_X8_init_inX8 (Nat.le_of_ble_eq_true rfl) m_X8_init_f22 rfl (by decide +kernel) rfl rfl (Nat.le_of_ble_eq_true rfl) dX8_init_24 ?_
  show cJ E A _ ((q, .inr (7, [.ref p0, .int (0 : Int32), .int (0 : Int32), .long 0])) :: ([] ++ [(p0, .inl (g.2.1, 40, .inl (fun _ => 0)))])) 1 40 27 [(0, .ref q)] []
  exact c_vret B hi0 hD (fun k => [p0].getD k 0, fun _ => 0) hA hsz rfl (Nat.le_of_ble_eq_true rfl) (Nat.le_of_ble_eq_true rfl) dX8_init_27
def sh_X6 (g : zGx) (q : Nat) (u : cU) : va_W := (q, .inr (5, [.ref (u.1 0)])) :: ([] ++ [(u.1 0, .inl (g.2.2.1, 2, .inr (.inl (fun _ => 0))))])
abbrev rm_X6_init : Room := { frames := 1, cells := 1, slots := 2, locals := 12 }
theorem m_X6_init_oi1 : Cond.methodLink RX6 3 objectInit ∈ wsX6_init := List.mem_cons_of_mem _ (List.mem_append_left _ (List.mem_of_getElem? (i := 0) rfl))
theorem m_X6_init_oi2 : Cond.instanceMethod objectInit ∈ wsX6_init := List.mem_cons_of_mem _ (List.mem_append_left _ (List.mem_of_getElem? (i := 1) rfl))
theorem m_X6_init_oi3 : Cond.code objectInit ⟨#[0xb1]⟩ 1 none ∈ wsX6_init := List.mem_cons_of_mem _ (List.mem_append_left _ (List.mem_of_getElem? (i := 2) rfl))
theorem m_X6_init_aclong : Cond.arrayClass .long ∈ wsX6_init := List.mem_cons_of_mem _ (List.mem_append_left _ (List.mem_of_getElem? (i := 3) rfl))
theorem m_X6_init_f9 : Cond.fieldLink RX6 9 "LongestMet$Stop" "lines" "[J" ∈ wsX6_init := List.mem_cons_of_mem _ (List.mem_append_left _ (List.mem_of_getElem? (i := 4) rfl))
theorem m_X6_init_inX6 : ∀ x ∈ u_ws RX6 TX6 1, x ∈ wsX6_init := fun _ h => List.mem_cons_of_mem _ (List.mem_append_right _ h)
set_option maxRecDepth 100000 in
set_option maxHeartbeats 4000000 in
theorem k_X6_init {l : Launch} {D : va_G} {g : zGx} : cMet l D (zT g) yX6_init wsX6_init rm_X6_init (.inr (5, [.null])) (sh_X6 g) 1 2 := by
  refine cmet_of (by decide +kernel) rfl rfl (Nat.le_of_ble_eq_true rfl) (fun E A q sz hl hD hE B hi0 hA hsz => ?_)
  refine c_aload_n B 0 dX6_init_0 rfl rfl ?_
  refine c_objInit B m_X6_init_oi1 m_X6_init_oi2 m_X6_init_oi3 (Nat.le_of_ble_eq_true rfl) (Nat.le_of_ble_eq_true rfl) dX6_init_1 ?_
  refine c_aload_n B 0 dX6_init_4 rfl rfl ?_
  refine c_iconst B (2 : Int32) dX6_init_5 (by decide) ?_
  refine c_newJ B 1 2 rfl m_X6_init_aclong (by decide) (by decide) (Nat.le_of_ble_eq_true rfl) (Nat.le_of_ble_eq_true rfl) (Nat.le_of_ble_eq_true rfl) dX6_init_6 (fun p0 => ?_)
  show cJ E A _ ((q, .inr (5, [.null])) :: ([] ++ [(p0, .inl (g.2.2.1, 2, .inr (.inl (fun _ => 0))))])) 1 2 8 [(0, .ref q)] [.ref p0, .ref q]
  refine c_putF (ty := (.array .long)) B hi0 5 0 tyX6 tyX6_ok nmX6 rfl m_X6_init_inX6 (Nat.le_of_ble_eq_true rfl) m_X6_init_f9 rfl rfl (by decide +kernel) rfl rfl (Nat.le_of_ble_eq_true rfl) dX6_init_8 ?_
  show cJ E A _ ((q, .inr (5, [.ref p0])) :: ([] ++ [(p0, .inl (g.2.2.1, 2, .inr (.inl (fun _ => 0))))])) 1 2 11 [(0, .ref q)] []
  exact c_vret B hi0 hD (fun k => [p0].getD k 0, fun _ => 0) hA hsz rfl (Nat.le_of_ble_eq_true rfl) (Nat.le_of_ble_eq_true rfl) dX6_init_11
def sh_X3 (g : zGx) (q : Nat) (u : cU) : va_W := (q, .inr (2, [.ref (u.1 0), .ref (u.1 1), .ref (u.1 2), .int (0 : Int32), .int (0 : Int32)])) :: ((([] ++ [(u.1 0, .inl (g.2.1, 12, .inl (fun _ => 0)))]) ++ [(u.1 1, .inl (g.2.1, 12, .inl (fun _ => 0)))]) ++ ((u.1 2, .inl (g.2.2.2.1, 12, .inr (.inr (.inr (.inr (fun z => some (u.2 z))))))) :: (List.range 12).map (fun i => (u.2 i, (.inl (g.2.1, 6, .inl (fun _ => 0)) : va_E)))))
abbrev rm_X3_init : Room := { frames := 1, cells := 15, slots := 108, locals := 12 }
theorem m_X3_init_oi1 : Cond.methodLink RX3 3 objectInit ∈ wsX3_init := List.mem_cons_of_mem _ (List.mem_append_left _ (List.mem_of_getElem? (i := 0) rfl))
theorem m_X3_init_oi2 : Cond.instanceMethod objectInit ∈ wsX3_init := List.mem_cons_of_mem _ (List.mem_append_left _ (List.mem_of_getElem? (i := 1) rfl))
theorem m_X3_init_oi3 : Cond.code objectInit ⟨#[0xb1]⟩ 1 none ∈ wsX3_init := List.mem_cons_of_mem _ (List.mem_append_left _ (List.mem_of_getElem? (i := 2) rfl))
theorem m_X3_init_acint : Cond.arrayClass .int ∈ wsX3_init := List.mem_cons_of_mem _ (List.mem_append_left _ (List.mem_of_getElem? (i := 3) rfl))
theorem m_X3_init_f11 : Cond.fieldLink RX3 11 "LongestMet$Holding" "goes" "[I" ∈ wsX3_init := List.mem_cons_of_mem _ (List.mem_append_left _ (List.mem_of_getElem? (i := 4) rfl))
theorem m_X3_init_inX3 : ∀ x ∈ u_ws RX3 TX3 5, x ∈ wsX3_init := fun _ h => List.mem_cons_of_mem _ (List.mem_append_right _ h)
theorem m_X3_init_f15 : Cond.fieldLink RX3 15 "LongestMet$Holding" "later" "[I" ∈ wsX3_init := List.mem_cons_of_mem _ (List.mem_append_left _ (List.mem_of_getElem? (i := 5) rfl))
theorem m_X3_init_cl18 : Cond.classLink RX3 18 "[[I" ∈ wsX3_init := List.mem_cons_of_mem _ (List.mem_append_left _ (List.mem_of_getElem? (i := 6) rfl))
theorem m_X3_init_f20 : Cond.fieldLink RX3 20 "LongestMet$Holding" "onward" "[[I" ∈ wsX3_init := List.mem_cons_of_mem _ (List.mem_append_left _ (List.mem_of_getElem? (i := 7) rfl))
theorem m_X3_init_f23 : Cond.fieldLink RX3 23 "LongestMet$Holding" "buses" "I" ∈ wsX3_init := List.mem_cons_of_mem _ (List.mem_append_left _ (List.mem_of_getElem? (i := 8) rfl))
theorem m_X3_init_f27 : Cond.fieldLink RX3 27 "LongestMet$Holding" "latest" "I" ∈ wsX3_init := List.mem_cons_of_mem _ (List.mem_append_left _ (List.mem_of_getElem? (i := 9) rfl))
set_option maxRecDepth 100000 in
set_option maxHeartbeats 4000000 in
theorem k_X3_init {l : Launch} {D : va_G} {g : zGx} : cMet l D (zT g) yX3_init wsX3_init rm_X3_init (.inr (2, [.null, .null, .null, .int 0, .int 0])) (sh_X3 g) 15 108 := by
  refine cmet_of (by decide +kernel) rfl rfl (Nat.le_of_ble_eq_true rfl) (fun E A q sz hl hD hE B hi0 hA hsz => ?_)
  refine c_aload_n B 0 dX3_init_0 rfl rfl ?_
  refine c_objInit B m_X3_init_oi1 m_X3_init_oi2 m_X3_init_oi3 (Nat.le_of_ble_eq_true rfl) (Nat.le_of_ble_eq_true rfl) dX3_init_1 ?_
  refine c_aload_n B 0 dX3_init_4 rfl rfl ?_
  refine c_bipush B (12 : Int32) dX3_init_5 (by decide) ?_
  refine c_newI B 0 12 rfl m_X3_init_acint (by decide) (by decide) (Nat.le_of_ble_eq_true rfl) (Nat.le_of_ble_eq_true rfl) (Nat.le_of_ble_eq_true rfl) dX3_init_7 (fun p0 => ?_)
  show cJ E A _ ((q, .inr (2, [.null, .null, .null, .int 0, .int 0])) :: ([] ++ [(p0, .inl (g.2.1, 12, .inl (fun _ => 0)))])) 1 12 9 [(0, .ref q)] [.ref p0, .ref q]
  refine c_putF (ty := (.array .int)) B hi0 2 0 tyX3 tyX3_ok nmX3 rfl m_X3_init_inX3 (Nat.le_of_ble_eq_true rfl) m_X3_init_f11 rfl rfl (by decide +kernel) rfl rfl (Nat.le_of_ble_eq_true rfl) dX3_init_9 ?_
  show cJ E A _ ((q, .inr (2, [.ref p0, .null, .null, .int 0, .int 0])) :: ([] ++ [(p0, .inl (g.2.1, 12, .inl (fun _ => 0)))])) 1 12 12 [(0, .ref q)] []
  refine c_aload_n B 0 dX3_init_12 rfl rfl ?_
  refine c_bipush B (12 : Int32) dX3_init_13 (by decide) ?_
  refine c_newI B 0 12 rfl m_X3_init_acint (by decide) (by decide) (Nat.le_of_ble_eq_true rfl) (Nat.le_of_ble_eq_true rfl) (Nat.le_of_ble_eq_true rfl) dX3_init_15 (fun p1 => ?_)
  show cJ E A _ ((q, .inr (2, [.ref p0, .null, .null, .int 0, .int 0])) :: (([] ++ [(p0, .inl (g.2.1, 12, .inl (fun _ => 0)))]) ++ [(p1, .inl (g.2.1, 12, .inl (fun _ => 0)))])) 2 24 17 [(0, .ref q)] [.ref p1, .ref q]
  refine c_putF (ty := (.array .int)) B hi0 2 1 tyX3 tyX3_ok nmX3 rfl m_X3_init_inX3 (Nat.le_of_ble_eq_true rfl) m_X3_init_f15 rfl rfl (by decide +kernel) rfl rfl (Nat.le_of_ble_eq_true rfl) dX3_init_17 ?_
  show cJ E A _ ((q, .inr (2, [.ref p0, .ref p1, .null, .int 0, .int 0])) :: (([] ++ [(p0, .inl (g.2.1, 12, .inl (fun _ => 0)))]) ++ [(p1, .inl (g.2.1, 12, .inl (fun _ => 0)))])) 2 24 20 [(0, .ref q)] []
  refine c_aload_n B 0 dX3_init_20 rfl rfl ?_
  refine c_bipush B (12 : Int32) dX3_init_21 (by decide) ?_
  refine c_bipush B (6 : Int32) dX3_init_23 (by decide) ?_
  refine c_mna B 12 6 rfl rfl m_X3_init_acint m_X3_init_cl18 (by decide) (by decide) (by decide) (by decide) (Nat.le_of_ble_eq_true rfl) (Nat.le_of_ble_eq_true rfl) (Nat.le_of_ble_eq_true rfl) (Nat.le_of_ble_eq_true rfl) (Nat.le_of_ble_eq_true rfl) dX3_init_25 (fun p2 rr => ?_)
  show cJ E A _ ((q, .inr (2, [.ref p0, .ref p1, .null, .int 0, .int 0])) :: ((([] ++ [(p0, .inl (g.2.1, 12, .inl (fun _ => 0)))]) ++ [(p1, .inl (g.2.1, 12, .inl (fun _ => 0)))]) ++ ((p2, .inl (g.2.2.2.1, 12, .inr (.inr (.inr (.inr (fun z => some (rr z))))))) :: (List.range 12).map (fun i => (rr i, (.inl (g.2.1, 6, .inl (fun _ => 0)) : va_E)))))) 15 108 29 [(0, .ref q)] [.ref p2, .ref q]
  refine c_putF (ty := (.array (.array .int))) B hi0 2 2 tyX3 tyX3_ok nmX3 rfl m_X3_init_inX3 (Nat.le_of_ble_eq_true rfl) m_X3_init_f20 rfl rfl (by decide +kernel) rfl rfl (Nat.le_of_ble_eq_true rfl) dX3_init_29 ?_
  show cJ E A _ ((q, .inr (2, [.ref p0, .ref p1, .ref p2, .int 0, .int 0])) :: ((([] ++ [(p0, .inl (g.2.1, 12, .inl (fun _ => 0)))]) ++ [(p1, .inl (g.2.1, 12, .inl (fun _ => 0)))]) ++ ((p2, .inl (g.2.2.2.1, 12, .inr (.inr (.inr (.inr (fun z => some (rr z))))))) :: (List.range 12).map (fun i => (rr i, (.inl (g.2.1, 6, .inl (fun _ => 0)) : va_E)))))) 15 108 32 [(0, .ref q)] []
  refine c_aload_n B 0 dX3_init_32 rfl rfl ?_
  refine c_iconst B (0 : Int32) dX3_init_33 (by decide) ?_
  refine c_put (ty := .int) B 2 3 tyX3 tyX3_ok nmX3 rfl m_X3_init_inX3 (Nat.le_of_ble_eq_true rfl) m_X3_init_f23 rfl (by decide +kernel) rfl rfl (Nat.le_of_ble_eq_true rfl) dX3_init_34 ?_
  show cJ E A _ ((q, .inr (2, [.ref p0, .ref p1, .ref p2, .int (0 : Int32), .int 0])) :: ((([] ++ [(p0, .inl (g.2.1, 12, .inl (fun _ => 0)))]) ++ [(p1, .inl (g.2.1, 12, .inl (fun _ => 0)))]) ++ ((p2, .inl (g.2.2.2.1, 12, .inr (.inr (.inr (.inr (fun z => some (rr z))))))) :: (List.range 12).map (fun i => (rr i, (.inl (g.2.1, 6, .inl (fun _ => 0)) : va_E)))))) 15 108 37 [(0, .ref q)] []
  refine c_aload_n B 0 dX3_init_37 rfl rfl ?_
  refine c_iconst B (0 : Int32) dX3_init_38 (by decide) ?_
  refine c_put (ty := .int) B 2 4 tyX3 tyX3_ok nmX3 rfl m_X3_init_inX3 (Nat.le_of_ble_eq_true rfl) m_X3_init_f27 rfl (by decide +kernel) rfl rfl (Nat.le_of_ble_eq_true rfl) dX3_init_39 ?_
  show cJ E A _ ((q, .inr (2, [.ref p0, .ref p1, .ref p2, .int (0 : Int32), .int (0 : Int32)])) :: ((([] ++ [(p0, .inl (g.2.1, 12, .inl (fun _ => 0)))]) ++ [(p1, .inl (g.2.1, 12, .inl (fun _ => 0)))]) ++ ((p2, .inl (g.2.2.2.1, 12, .inr (.inr (.inr (.inr (fun z => some (rr z))))))) :: (List.range 12).map (fun i => (rr i, (.inl (g.2.1, 6, .inl (fun _ => 0)) : va_E)))))) 15 108 42 [(0, .ref q)] []
  exact c_vret B hi0 hD (fun k => [p0, p1, p2].getD k 0, rr) hA hsz rfl (Nat.le_of_ble_eq_true rfl) (Nat.le_of_ble_eq_true rfl) dX3_init_42
def sh_X7 (g : zGx) (q : Nat) (u : cU) : va_W := (q, .inr (6, [.ref (u.1 0), .ref (u.1 1), .ref (u.1 2), .int (0 : Int32), .int (0 : Int32), .int (999 : Int32)])) :: ((([] ++ [(u.1 0, .inl (g.2.1, 40, .inl (fun _ => 0)))]) ++ [(u.1 1, .inl (g.2.1, 40, .inl (fun _ => 0)))]) ++ [(u.1 2, .inl (g.2.1, 40, .inl (fun _ => 0)))])
abbrev rm_X7_init : Room := { frames := 1, cells := 3, slots := 120, locals := 12 }
theorem m_X7_init_oi1 : Cond.methodLink RX7 3 objectInit ∈ wsX7_init := List.mem_cons_of_mem _ (List.mem_append_left _ (List.mem_of_getElem? (i := 0) rfl))
theorem m_X7_init_oi2 : Cond.instanceMethod objectInit ∈ wsX7_init := List.mem_cons_of_mem _ (List.mem_append_left _ (List.mem_of_getElem? (i := 1) rfl))
theorem m_X7_init_oi3 : Cond.code objectInit ⟨#[0xb1]⟩ 1 none ∈ wsX7_init := List.mem_cons_of_mem _ (List.mem_append_left _ (List.mem_of_getElem? (i := 2) rfl))
theorem m_X7_init_acint : Cond.arrayClass .int ∈ wsX7_init := List.mem_cons_of_mem _ (List.mem_append_left _ (List.mem_of_getElem? (i := 3) rfl))
theorem m_X7_init_f11 : Cond.fieldLink RX7 11 "LongestMet$Survey" "answers" "[I" ∈ wsX7_init := List.mem_cons_of_mem _ (List.mem_append_left _ (List.mem_of_getElem? (i := 4) rfl))
theorem m_X7_init_inX7 : ∀ x ∈ u_ws RX7 TX7 6, x ∈ wsX7_init := fun _ h => List.mem_cons_of_mem _ (List.mem_append_right _ h)
theorem m_X7_init_f15 : Cond.fieldLink RX7 15 "LongestMet$Survey" "toldAt" "[I" ∈ wsX7_init := List.mem_cons_of_mem _ (List.mem_append_left _ (List.mem_of_getElem? (i := 5) rfl))
theorem m_X7_init_f18 : Cond.fieldLink RX7 18 "LongestMet$Survey" "backAt" "[I" ∈ wsX7_init := List.mem_cons_of_mem _ (List.mem_append_left _ (List.mem_of_getElem? (i := 6) rfl))
theorem m_X7_init_f21 : Cond.fieldLink RX7 21 "LongestMet$Survey" "told" "I" ∈ wsX7_init := List.mem_cons_of_mem _ (List.mem_append_left _ (List.mem_of_getElem? (i := 7) rfl))
theorem m_X7_init_f25 : Cond.fieldLink RX7 25 "LongestMet$Survey" "now" "I" ∈ wsX7_init := List.mem_cons_of_mem _ (List.mem_append_left _ (List.mem_of_getElem? (i := 8) rfl))
theorem m_X7_init_f28 : Cond.fieldLink RX7 28 "LongestMet$Survey" "seenFrom" "I" ∈ wsX7_init := List.mem_cons_of_mem _ (List.mem_append_left _ (List.mem_of_getElem? (i := 9) rfl))
set_option maxRecDepth 100000 in
set_option maxHeartbeats 4000000 in
theorem k_X7_init {l : Launch} {D : va_G} {g : zGx} : cMet l D (zT g) yX7_init wsX7_init rm_X7_init (.inr (6, [.null, .null, .null, .int 0, .int 0, .int 0])) (sh_X7 g) 3 120 := by
  refine cmet_of (by decide +kernel) rfl rfl (Nat.le_of_ble_eq_true rfl) (fun E A q sz hl hD hE B hi0 hA hsz => ?_)
  refine c_aload_n B 0 dX7_init_0 rfl rfl ?_
  refine c_objInit B m_X7_init_oi1 m_X7_init_oi2 m_X7_init_oi3 (Nat.le_of_ble_eq_true rfl) (Nat.le_of_ble_eq_true rfl) dX7_init_1 ?_
  refine c_aload_n B 0 dX7_init_4 rfl rfl ?_
  refine c_bipush B (40 : Int32) dX7_init_5 (by decide) ?_
  refine c_newI B 0 40 rfl m_X7_init_acint (by decide) (by decide) (Nat.le_of_ble_eq_true rfl) (Nat.le_of_ble_eq_true rfl) (Nat.le_of_ble_eq_true rfl) dX7_init_7 (fun p0 => ?_)
  show cJ E A _ ((q, .inr (6, [.null, .null, .null, .int 0, .int 0, .int 0])) :: ([] ++ [(p0, .inl (g.2.1, 40, .inl (fun _ => 0)))])) 1 40 9 [(0, .ref q)] [.ref p0, .ref q]
  refine c_putF (ty := (.array .int)) B hi0 6 0 tyX7 tyX7_ok nmX7 rfl m_X7_init_inX7 (Nat.le_of_ble_eq_true rfl) m_X7_init_f11 rfl rfl (by decide +kernel) rfl rfl (Nat.le_of_ble_eq_true rfl) dX7_init_9 ?_
  show cJ E A _ ((q, .inr (6, [.ref p0, .null, .null, .int 0, .int 0, .int 0])) :: ([] ++ [(p0, .inl (g.2.1, 40, .inl (fun _ => 0)))])) 1 40 12 [(0, .ref q)] []
  refine c_aload_n B 0 dX7_init_12 rfl rfl ?_
  refine c_bipush B (40 : Int32) dX7_init_13 (by decide) ?_
  refine c_newI B 0 40 rfl m_X7_init_acint (by decide) (by decide) (Nat.le_of_ble_eq_true rfl) (Nat.le_of_ble_eq_true rfl) (Nat.le_of_ble_eq_true rfl) dX7_init_15 (fun p1 => ?_)
  show cJ E A _ ((q, .inr (6, [.ref p0, .null, .null, .int 0, .int 0, .int 0])) :: (([] ++ [(p0, .inl (g.2.1, 40, .inl (fun _ => 0)))]) ++ [(p1, .inl (g.2.1, 40, .inl (fun _ => 0)))])) 2 80 17 [(0, .ref q)] [.ref p1, .ref q]
  refine c_putF (ty := (.array .int)) B hi0 6 1 tyX7 tyX7_ok nmX7 rfl m_X7_init_inX7 (Nat.le_of_ble_eq_true rfl) m_X7_init_f15 rfl rfl (by decide +kernel) rfl rfl (Nat.le_of_ble_eq_true rfl) dX7_init_17 ?_
  show cJ E A _ ((q, .inr (6, [.ref p0, .ref p1, .null, .int 0, .int 0, .int 0])) :: (([] ++ [(p0, .inl (g.2.1, 40, .inl (fun _ => 0)))]) ++ [(p1, .inl (g.2.1, 40, .inl (fun _ => 0)))])) 2 80 20 [(0, .ref q)] []
  refine c_aload_n B 0 dX7_init_20 rfl rfl ?_
  refine c_bipush B (40 : Int32) dX7_init_21 (by decide) ?_
  refine c_newI B 0 40 rfl m_X7_init_acint (by decide) (by decide) (Nat.le_of_ble_eq_true rfl) (Nat.le_of_ble_eq_true rfl) (Nat.le_of_ble_eq_true rfl) dX7_init_23 (fun p2 => ?_)
  show cJ E A _ ((q, .inr (6, [.ref p0, .ref p1, .null, .int 0, .int 0, .int 0])) :: ((([] ++ [(p0, .inl (g.2.1, 40, .inl (fun _ => 0)))]) ++ [(p1, .inl (g.2.1, 40, .inl (fun _ => 0)))]) ++ [(p2, .inl (g.2.1, 40, .inl (fun _ => 0)))])) 3 120 25 [(0, .ref q)] [.ref p2, .ref q]
  refine c_putF (ty := (.array .int)) B hi0 6 2 tyX7 tyX7_ok nmX7 rfl m_X7_init_inX7 (Nat.le_of_ble_eq_true rfl) m_X7_init_f18 rfl rfl (by decide +kernel) rfl rfl (Nat.le_of_ble_eq_true rfl) dX7_init_25 ?_
  show cJ E A _ ((q, .inr (6, [.ref p0, .ref p1, .ref p2, .int 0, .int 0, .int 0])) :: ((([] ++ [(p0, .inl (g.2.1, 40, .inl (fun _ => 0)))]) ++ [(p1, .inl (g.2.1, 40, .inl (fun _ => 0)))]) ++ [(p2, .inl (g.2.1, 40, .inl (fun _ => 0)))])) 3 120 28 [(0, .ref q)] []
  refine c_aload_n B 0 dX7_init_28 rfl rfl ?_
  refine c_iconst B (0 : Int32) dX7_init_29 (by decide) ?_
  refine c_put (ty := .int) B 6 3 tyX7 tyX7_ok nmX7 rfl m_X7_init_inX7 (Nat.le_of_ble_eq_true rfl) m_X7_init_f21 rfl (by decide +kernel) rfl rfl (Nat.le_of_ble_eq_true rfl) dX7_init_30 ?_
  show cJ E A _ ((q, .inr (6, [.ref p0, .ref p1, .ref p2, .int (0 : Int32), .int 0, .int 0])) :: ((([] ++ [(p0, .inl (g.2.1, 40, .inl (fun _ => 0)))]) ++ [(p1, .inl (g.2.1, 40, .inl (fun _ => 0)))]) ++ [(p2, .inl (g.2.1, 40, .inl (fun _ => 0)))])) 3 120 33 [(0, .ref q)] []
  refine c_aload_n B 0 dX7_init_33 rfl rfl ?_
  refine c_iconst B (0 : Int32) dX7_init_34 (by decide) ?_
  refine c_put (ty := .int) B 6 4 tyX7 tyX7_ok nmX7 rfl m_X7_init_inX7 (Nat.le_of_ble_eq_true rfl) m_X7_init_f25 rfl (by decide +kernel) rfl rfl (Nat.le_of_ble_eq_true rfl) dX7_init_35 ?_
  show cJ E A _ ((q, .inr (6, [.ref p0, .ref p1, .ref p2, .int (0 : Int32), .int (0 : Int32), .int 0])) :: ((([] ++ [(p0, .inl (g.2.1, 40, .inl (fun _ => 0)))]) ++ [(p1, .inl (g.2.1, 40, .inl (fun _ => 0)))]) ++ [(p2, .inl (g.2.1, 40, .inl (fun _ => 0)))])) 3 120 38 [(0, .ref q)] []
  refine c_aload_n B 0 dX7_init_38 rfl rfl ?_
  refine c_sipush B (999 : Int32) dX7_init_39 (by decide) ?_
  refine c_put (ty := .int) B 6 5 tyX7 tyX7_ok nmX7 rfl m_X7_init_inX7 (Nat.le_of_ble_eq_true rfl) m_X7_init_f28 rfl (by decide +kernel) rfl rfl (Nat.le_of_ble_eq_true rfl) dX7_init_42 ?_
  show cJ E A _ ((q, .inr (6, [.ref p0, .ref p1, .ref p2, .int (0 : Int32), .int (0 : Int32), .int (999 : Int32)])) :: ((([] ++ [(p0, .inl (g.2.1, 40, .inl (fun _ => 0)))]) ++ [(p1, .inl (g.2.1, 40, .inl (fun _ => 0)))]) ++ [(p2, .inl (g.2.1, 40, .inl (fun _ => 0)))])) 3 120 45 [(0, .ref q)] []
  exact c_vret B hi0 hD (fun k => [p0, p1, p2].getD k 0, fun _ => 0) hA hsz rfl (Nat.le_of_ble_eq_true rfl) (Nat.le_of_ble_eq_true rfl) dX7_init_45
def sh_X1 (g : zGx) (q : Nat) (u : cU) : va_W := (q, .inr (1, [.ref (u.1 0)])) :: ([] ++ ((u.1 0, .inl (g.2.2.2.1, 4, .inr (.inr (.inr (.inr (fun z => some (u.2 z))))))) :: (List.range 4).map (fun i => (u.2 i, (.inl (g.2.1, 9, .inl (fun _ => 0)) : va_E)))))
abbrev rm_X1_init : Room := { frames := 1, cells := 5, slots := 40, locals := 12 }
theorem m_X1_init_oi1 : Cond.methodLink RX1 3 objectInit ∈ wsX1_init := List.mem_cons_of_mem _ (List.mem_append_left _ (List.mem_of_getElem? (i := 0) rfl))
theorem m_X1_init_oi2 : Cond.instanceMethod objectInit ∈ wsX1_init := List.mem_cons_of_mem _ (List.mem_append_left _ (List.mem_of_getElem? (i := 1) rfl))
theorem m_X1_init_oi3 : Cond.code objectInit ⟨#[0xb1]⟩ 1 none ∈ wsX1_init := List.mem_cons_of_mem _ (List.mem_append_left _ (List.mem_of_getElem? (i := 2) rfl))
theorem m_X1_init_acint : Cond.arrayClass .int ∈ wsX1_init := List.mem_cons_of_mem _ (List.mem_append_left _ (List.mem_of_getElem? (i := 4) rfl))
theorem m_X1_init_cl9 : Cond.classLink RX1 9 "[[I" ∈ wsX1_init := List.mem_cons_of_mem _ (List.mem_append_left _ (List.mem_of_getElem? (i := 3) rfl))
theorem m_X1_init_f11 : Cond.fieldLink RX1 11 "LongestMet$Country" "alike" "[[I" ∈ wsX1_init := List.mem_cons_of_mem _ (List.mem_append_left _ (List.mem_of_getElem? (i := 5) rfl))
theorem m_X1_init_inX1 : ∀ x ∈ u_ws RX1 TX1 1, x ∈ wsX1_init := fun _ h => List.mem_cons_of_mem _ (List.mem_append_right _ h)
set_option maxRecDepth 100000 in
set_option maxHeartbeats 4000000 in
theorem k_X1_init {l : Launch} {D : va_G} {g : zGx} : cMet l D (zT g) yX1_init wsX1_init rm_X1_init (.inr (1, [.null])) (sh_X1 g) 5 40 := by
  refine cmet_of (by decide +kernel) rfl rfl (Nat.le_of_ble_eq_true rfl) (fun E A q sz hl hD hE B hi0 hA hsz => ?_)
  refine c_aload_n B 0 dX1_init_0 rfl rfl ?_
  refine c_objInit B m_X1_init_oi1 m_X1_init_oi2 m_X1_init_oi3 (Nat.le_of_ble_eq_true rfl) (Nat.le_of_ble_eq_true rfl) dX1_init_1 ?_
  refine c_aload_n B 0 dX1_init_4 rfl rfl ?_
  refine c_iconst B (4 : Int32) dX1_init_5 (by decide) ?_
  refine c_bipush B (9 : Int32) dX1_init_6 (by decide) ?_
  refine c_mna B 4 9 rfl rfl m_X1_init_acint m_X1_init_cl9 (by decide) (by decide) (by decide) (by decide) (Nat.le_of_ble_eq_true rfl) (Nat.le_of_ble_eq_true rfl) (Nat.le_of_ble_eq_true rfl) (Nat.le_of_ble_eq_true rfl) (Nat.le_of_ble_eq_true rfl) dX1_init_8 (fun p0 rr => ?_)
  show cJ E A _ ((q, .inr (1, [.null])) :: ([] ++ ((p0, .inl (g.2.2.2.1, 4, .inr (.inr (.inr (.inr (fun z => some (rr z))))))) :: (List.range 4).map (fun i => (rr i, (.inl (g.2.1, 9, .inl (fun _ => 0)) : va_E)))))) 5 40 12 [(0, .ref q)] [.ref p0, .ref q]
  refine c_putF (ty := (.array (.array .int))) B hi0 1 0 tyX1 tyX1_ok nmX1 rfl m_X1_init_inX1 (Nat.le_of_ble_eq_true rfl) m_X1_init_f11 rfl rfl (by decide +kernel) rfl rfl (Nat.le_of_ble_eq_true rfl) dX1_init_12 ?_
  show cJ E A _ ((q, .inr (1, [.ref p0])) :: ([] ++ ((p0, .inl (g.2.2.2.1, 4, .inr (.inr (.inr (.inr (fun z => some (rr z))))))) :: (List.range 4).map (fun i => (rr i, (.inl (g.2.1, 9, .inl (fun _ => 0)) : va_E)))))) 5 40 15 [(0, .ref q)] []
  exact c_vret B hi0 hD (fun k => [p0].getD k 0, rr) hA hsz rfl (Nat.le_of_ble_eq_true rfl) (Nat.le_of_ble_eq_true rfl) dX1_init_15
def sh_X9 (g : zGx) (q : Nat) (u : cU) : va_W := (q, .inr (8, [.ref (u.1 0), .ref (u.1 1), .int (0 : Int32)])) :: (([] ++ [(u.1 0, .inl (g.2.1, 24, .inl (fun _ => 0)))]) ++ [(u.1 1, .inl (g.2.1, 24, .inl (fun _ => 0)))])
abbrev rm_X9_init : Room := { frames := 1, cells := 2, slots := 48, locals := 12 }
theorem m_X9_init_oi1 : Cond.methodLink RX9 3 objectInit ∈ wsX9_init := List.mem_cons_of_mem _ (List.mem_append_left _ (List.mem_of_getElem? (i := 0) rfl))
theorem m_X9_init_oi2 : Cond.instanceMethod objectInit ∈ wsX9_init := List.mem_cons_of_mem _ (List.mem_append_left _ (List.mem_of_getElem? (i := 1) rfl))
theorem m_X9_init_oi3 : Cond.code objectInit ⟨#[0xb1]⟩ 1 none ∈ wsX9_init := List.mem_cons_of_mem _ (List.mem_append_left _ (List.mem_of_getElem? (i := 2) rfl))
theorem m_X9_init_acint : Cond.arrayClass .int ∈ wsX9_init := List.mem_cons_of_mem _ (List.mem_append_left _ (List.mem_of_getElem? (i := 3) rfl))
theorem m_X9_init_f11 : Cond.fieldLink RX9 11 "LongestMet$Ward" "first" "[I" ∈ wsX9_init := List.mem_cons_of_mem _ (List.mem_append_left _ (List.mem_of_getElem? (i := 4) rfl))
theorem m_X9_init_inX9 : ∀ x ∈ u_ws RX9 TX9 3, x ∈ wsX9_init := fun _ h => List.mem_cons_of_mem _ (List.mem_append_right _ h)
theorem m_X9_init_f15 : Cond.fieldLink RX9 15 "LongestMet$Ward" "last" "[I" ∈ wsX9_init := List.mem_cons_of_mem _ (List.mem_append_left _ (List.mem_of_getElem? (i := 5) rfl))
theorem m_X9_init_f18 : Cond.fieldLink RX9 18 "LongestMet$Ward" "stays" "I" ∈ wsX9_init := List.mem_cons_of_mem _ (List.mem_append_left _ (List.mem_of_getElem? (i := 6) rfl))
set_option maxRecDepth 100000 in
set_option maxHeartbeats 4000000 in
theorem k_X9_init {l : Launch} {D : va_G} {g : zGx} : cMet l D (zT g) yX9_init wsX9_init rm_X9_init (.inr (8, [.null, .null, .int 0])) (sh_X9 g) 2 48 := by
  refine cmet_of (by decide +kernel) rfl rfl (Nat.le_of_ble_eq_true rfl) (fun E A q sz hl hD hE B hi0 hA hsz => ?_)
  refine c_aload_n B 0 dX9_init_0 rfl rfl ?_
  refine c_objInit B m_X9_init_oi1 m_X9_init_oi2 m_X9_init_oi3 (Nat.le_of_ble_eq_true rfl) (Nat.le_of_ble_eq_true rfl) dX9_init_1 ?_
  refine c_aload_n B 0 dX9_init_4 rfl rfl ?_
  refine c_bipush B (24 : Int32) dX9_init_5 (by decide) ?_
  refine c_newI B 0 24 rfl m_X9_init_acint (by decide) (by decide) (Nat.le_of_ble_eq_true rfl) (Nat.le_of_ble_eq_true rfl) (Nat.le_of_ble_eq_true rfl) dX9_init_7 (fun p0 => ?_)
  show cJ E A _ ((q, .inr (8, [.null, .null, .int 0])) :: ([] ++ [(p0, .inl (g.2.1, 24, .inl (fun _ => 0)))])) 1 24 9 [(0, .ref q)] [.ref p0, .ref q]
  refine c_putF (ty := (.array .int)) B hi0 8 0 tyX9 tyX9_ok nmX9 rfl m_X9_init_inX9 (Nat.le_of_ble_eq_true rfl) m_X9_init_f11 rfl rfl (by decide +kernel) rfl rfl (Nat.le_of_ble_eq_true rfl) dX9_init_9 ?_
  show cJ E A _ ((q, .inr (8, [.ref p0, .null, .int 0])) :: ([] ++ [(p0, .inl (g.2.1, 24, .inl (fun _ => 0)))])) 1 24 12 [(0, .ref q)] []
  refine c_aload_n B 0 dX9_init_12 rfl rfl ?_
  refine c_bipush B (24 : Int32) dX9_init_13 (by decide) ?_
  refine c_newI B 0 24 rfl m_X9_init_acint (by decide) (by decide) (Nat.le_of_ble_eq_true rfl) (Nat.le_of_ble_eq_true rfl) (Nat.le_of_ble_eq_true rfl) dX9_init_15 (fun p1 => ?_)
  show cJ E A _ ((q, .inr (8, [.ref p0, .null, .int 0])) :: (([] ++ [(p0, .inl (g.2.1, 24, .inl (fun _ => 0)))]) ++ [(p1, .inl (g.2.1, 24, .inl (fun _ => 0)))])) 2 48 17 [(0, .ref q)] [.ref p1, .ref q]
  refine c_putF (ty := (.array .int)) B hi0 8 1 tyX9 tyX9_ok nmX9 rfl m_X9_init_inX9 (Nat.le_of_ble_eq_true rfl) m_X9_init_f15 rfl rfl (by decide +kernel) rfl rfl (Nat.le_of_ble_eq_true rfl) dX9_init_17 ?_
  show cJ E A _ ((q, .inr (8, [.ref p0, .ref p1, .int 0])) :: (([] ++ [(p0, .inl (g.2.1, 24, .inl (fun _ => 0)))]) ++ [(p1, .inl (g.2.1, 24, .inl (fun _ => 0)))])) 2 48 20 [(0, .ref q)] []
  refine c_aload_n B 0 dX9_init_20 rfl rfl ?_
  refine c_iconst B (0 : Int32) dX9_init_21 (by decide) ?_
  refine c_put (ty := .int) B 8 2 tyX9 tyX9_ok nmX9 rfl m_X9_init_inX9 (Nat.le_of_ble_eq_true rfl) m_X9_init_f18 rfl (by decide +kernel) rfl rfl (Nat.le_of_ble_eq_true rfl) dX9_init_22 ?_
  show cJ E A _ ((q, .inr (8, [.ref p0, .ref p1, .int (0 : Int32)])) :: (([] ++ [(p0, .inl (g.2.1, 24, .inl (fun _ => 0)))]) ++ [(p1, .inl (g.2.1, 24, .inl (fun _ => 0)))])) 2 48 25 [(0, .ref q)] []
  exact c_vret B hi0 hD (fun k => [p0, p1].getD k 0, fun _ => 0) hA hsz rfl (Nat.le_of_ble_eq_true rfl) (Nat.le_of_ble_eq_true rfl) dX9_init_25
def sh_X0 (g : zGx) (q : Nat) (u : cU) : va_W := (q, .inr (0, [.ref (u.1 0)])) :: ([] ++ [(u.1 0, .inl (g.2.1, 8, .inl (fun _ => 0)))])
abbrev rm_X0_init : Room := { frames := 1, cells := 1, slots := 8, locals := 12 }
theorem m_X0_init_oi1 : Cond.methodLink RX0 5 objectInit ∈ wsX0_init := List.mem_cons_of_mem _ (List.mem_append_left _ (List.mem_of_getElem? (i := 0) rfl))
theorem m_X0_init_oi2 : Cond.instanceMethod objectInit ∈ wsX0_init := List.mem_cons_of_mem _ (List.mem_append_left _ (List.mem_of_getElem? (i := 1) rfl))
theorem m_X0_init_oi3 : Cond.code objectInit ⟨#[0xb1]⟩ 1 none ∈ wsX0_init := List.mem_cons_of_mem _ (List.mem_append_left _ (List.mem_of_getElem? (i := 2) rfl))
theorem m_X0_init_acint : Cond.arrayClass .int ∈ wsX0_init := List.mem_cons_of_mem _ (List.mem_append_left _ (List.mem_of_getElem? (i := 3) rfl))
theorem m_X0_init_f11 : Cond.fieldLink RX0 11 "LongestMet$Circle" "hers" "[I" ∈ wsX0_init := List.mem_cons_of_mem _ (List.mem_append_left _ (List.mem_of_getElem? (i := 4) rfl))
theorem m_X0_init_inX0 : ∀ x ∈ u_ws RX0 TX0 1, x ∈ wsX0_init := fun _ h => List.mem_cons_of_mem _ (List.mem_append_right _ h)
set_option maxRecDepth 100000 in
set_option maxHeartbeats 4000000 in
theorem k_X0_init {l : Launch} {D : va_G} {g : zGx} : cMet l D (zT g) yX0_init wsX0_init rm_X0_init (.inr (0, [.null])) (sh_X0 g) 1 8 := by
  refine cmet_of (by decide +kernel) rfl rfl (Nat.le_of_ble_eq_true rfl) (fun E A q sz hl hD hE B hi0 hA hsz => ?_)
  refine c_aload_n B 0 dX0_init_0 rfl rfl ?_
  refine c_objInit B m_X0_init_oi1 m_X0_init_oi2 m_X0_init_oi3 (Nat.le_of_ble_eq_true rfl) (Nat.le_of_ble_eq_true rfl) dX0_init_1 ?_
  refine c_aload_n B 0 dX0_init_4 rfl rfl ?_
  refine c_bipush B (8 : Int32) dX0_init_5 (by decide) ?_
  refine c_newI B 0 8 rfl m_X0_init_acint (by decide) (by decide) (Nat.le_of_ble_eq_true rfl) (Nat.le_of_ble_eq_true rfl) (Nat.le_of_ble_eq_true rfl) dX0_init_7 (fun p0 => ?_)
  show cJ E A _ ((q, .inr (0, [.null])) :: ([] ++ [(p0, .inl (g.2.1, 8, .inl (fun _ => 0)))])) 1 8 9 [(0, .ref q)] [.ref p0, .ref q]
  refine c_putF (ty := (.array .int)) B hi0 0 0 tyX0 tyX0_ok nmX0 rfl m_X0_init_inX0 (Nat.le_of_ble_eq_true rfl) m_X0_init_f11 rfl rfl (by decide +kernel) rfl rfl (Nat.le_of_ble_eq_true rfl) dX0_init_9 ?_
  show cJ E A _ ((q, .inr (0, [.ref p0])) :: ([] ++ [(p0, .inl (g.2.1, 8, .inl (fun _ => 0)))])) 1 8 12 [(0, .ref q)] []
  exact c_vret B hi0 hD (fun k => [p0].getD k 0, fun _ => 0) hA hsz rfl (Nat.le_of_ble_eq_true rfl) (Nat.le_of_ble_eq_true rfl) dX0_init_12
def sh_X4 (g : zGx) (q : Nat) (u : cU) : va_W := (q, .inr (3, [.ref (u.1 0), .int (0 : Int32)])) :: ([] ++ [(u.1 0, .inl (g.2.1, 8, .inl (fun _ => 0)))])
abbrev rm_X4_init : Room := { frames := 1, cells := 1, slots := 8, locals := 12 }
theorem m_X4_init_oi1 : Cond.methodLink RX4 3 objectInit ∈ wsX4_init := List.mem_cons_of_mem _ (List.mem_append_left _ (List.mem_of_getElem? (i := 0) rfl))
theorem m_X4_init_oi2 : Cond.instanceMethod objectInit ∈ wsX4_init := List.mem_cons_of_mem _ (List.mem_append_left _ (List.mem_of_getElem? (i := 1) rfl))
theorem m_X4_init_oi3 : Cond.code objectInit ⟨#[0xb1]⟩ 1 none ∈ wsX4_init := List.mem_cons_of_mem _ (List.mem_append_left _ (List.mem_of_getElem? (i := 2) rfl))
theorem m_X4_init_acint : Cond.arrayClass .int ∈ wsX4_init := List.mem_cons_of_mem _ (List.mem_append_left _ (List.mem_of_getElem? (i := 3) rfl))
theorem m_X4_init_f11 : Cond.fieldLink RX4 11 "LongestMet$Rod" "lengths" "[I" ∈ wsX4_init := List.mem_cons_of_mem _ (List.mem_append_left _ (List.mem_of_getElem? (i := 4) rfl))
theorem m_X4_init_inX4 : ∀ x ∈ u_ws RX4 TX4 2, x ∈ wsX4_init := fun _ h => List.mem_cons_of_mem _ (List.mem_append_right _ h)
theorem m_X4_init_f15 : Cond.fieldLink RX4 15 "LongestMet$Rod" "pieces" "I" ∈ wsX4_init := List.mem_cons_of_mem _ (List.mem_append_left _ (List.mem_of_getElem? (i := 5) rfl))
set_option maxRecDepth 100000 in
set_option maxHeartbeats 4000000 in
theorem k_X4_init {l : Launch} {D : va_G} {g : zGx} : cMet l D (zT g) yX4_init wsX4_init rm_X4_init (.inr (3, [.null, .int 0])) (sh_X4 g) 1 8 := by
  refine cmet_of (by decide +kernel) rfl rfl (Nat.le_of_ble_eq_true rfl) (fun E A q sz hl hD hE B hi0 hA hsz => ?_)
  refine c_aload_n B 0 dX4_init_0 rfl rfl ?_
  refine c_objInit B m_X4_init_oi1 m_X4_init_oi2 m_X4_init_oi3 (Nat.le_of_ble_eq_true rfl) (Nat.le_of_ble_eq_true rfl) dX4_init_1 ?_
  refine c_aload_n B 0 dX4_init_4 rfl rfl ?_
  refine c_bipush B (8 : Int32) dX4_init_5 (by decide) ?_
  refine c_newI B 0 8 rfl m_X4_init_acint (by decide) (by decide) (Nat.le_of_ble_eq_true rfl) (Nat.le_of_ble_eq_true rfl) (Nat.le_of_ble_eq_true rfl) dX4_init_7 (fun p0 => ?_)
  show cJ E A _ ((q, .inr (3, [.null, .int 0])) :: ([] ++ [(p0, .inl (g.2.1, 8, .inl (fun _ => 0)))])) 1 8 9 [(0, .ref q)] [.ref p0, .ref q]
  refine c_putF (ty := (.array .int)) B hi0 3 0 tyX4 tyX4_ok nmX4 rfl m_X4_init_inX4 (Nat.le_of_ble_eq_true rfl) m_X4_init_f11 rfl rfl (by decide +kernel) rfl rfl (Nat.le_of_ble_eq_true rfl) dX4_init_9 ?_
  show cJ E A _ ((q, .inr (3, [.ref p0, .int 0])) :: ([] ++ [(p0, .inl (g.2.1, 8, .inl (fun _ => 0)))])) 1 8 12 [(0, .ref q)] []
  refine c_aload_n B 0 dX4_init_12 rfl rfl ?_
  refine c_iconst B (0 : Int32) dX4_init_13 (by decide) ?_
  refine c_put (ty := .int) B 3 1 tyX4 tyX4_ok nmX4 rfl m_X4_init_inX4 (Nat.le_of_ble_eq_true rfl) m_X4_init_f15 rfl (by decide +kernel) rfl rfl (Nat.le_of_ble_eq_true rfl) dX4_init_14 ?_
  show cJ E A _ ((q, .inr (3, [.ref p0, .int (0 : Int32)])) :: ([] ++ [(p0, .inl (g.2.1, 8, .inl (fun _ => 0)))])) 1 8 17 [(0, .ref q)] []
  exact c_vret B hi0 hD (fun k => [p0].getD k 0, fun _ => 0) hA hsz rfl (Nat.le_of_ble_eq_true rfl) (Nat.le_of_ble_eq_true rfl) dX4_init_17
def sh_X5 (g : zGx) (q : Nat) (u : cU) : va_W := (q, .inr (4, [.ref (u.1 0), .ref (u.1 1), .ref (u.1 2), .int (0 : Int32)])) :: ((([] ++ ((u.1 0, .inl (g.2.2.2.1, 4, .inr (.inr (.inr (.inr (fun z => some (u.2 z))))))) :: (List.range 4).map (fun i => (u.2 i, (.inl (g.2.1, 60, .inl (fun _ => 0)) : va_E))))) ++ [(u.1 1, .inl (g.2.1, 4, .inl (fun _ => 0)))]) ++ [(u.1 2, .inl (g.2.1, 4, .inl (upd (upd (upd (upd (fun _ => 0) 0 (-1)) 1 (-1)) 2 (-1)) 3 (-1))))])
abbrev rm_X5_init : Room := { frames := 1, cells := 7, slots := 252, locals := 12 }
theorem m_X5_init_oi1 : Cond.methodLink RX5 3 objectInit ∈ wsX5_init := List.mem_cons_of_mem _ (List.mem_append_left _ (List.mem_of_getElem? (i := 0) rfl))
theorem m_X5_init_oi2 : Cond.instanceMethod objectInit ∈ wsX5_init := List.mem_cons_of_mem _ (List.mem_append_left _ (List.mem_of_getElem? (i := 1) rfl))
theorem m_X5_init_oi3 : Cond.code objectInit ⟨#[0xb1]⟩ 1 none ∈ wsX5_init := List.mem_cons_of_mem _ (List.mem_append_left _ (List.mem_of_getElem? (i := 2) rfl))
theorem m_X5_init_acint : Cond.arrayClass .int ∈ wsX5_init := List.mem_cons_of_mem _ (List.mem_append_left _ (List.mem_of_getElem? (i := 4) rfl))
theorem m_X5_init_cl9 : Cond.classLink RX5 9 "[[I" ∈ wsX5_init := List.mem_cons_of_mem _ (List.mem_append_left _ (List.mem_of_getElem? (i := 3) rfl))
theorem m_X5_init_f11 : Cond.fieldLink RX5 11 "LongestMet$Sheets" "rows" "[[I" ∈ wsX5_init := List.mem_cons_of_mem _ (List.mem_append_left _ (List.mem_of_getElem? (i := 5) rfl))
theorem m_X5_init_inX5 : ∀ x ∈ u_ws RX5 TX5 4, x ∈ wsX5_init := fun _ h => List.mem_cons_of_mem _ (List.mem_append_right _ h)
theorem m_X5_init_f16 : Cond.fieldLink RX5 16 "LongestMet$Sheets" "forms" "[I" ∈ wsX5_init := List.mem_cons_of_mem _ (List.mem_append_left _ (List.mem_of_getElem? (i := 6) rfl))
theorem m_X5_init_f20 : Cond.fieldLink RX5 20 "LongestMet$Sheets" "sizes" "[I" ∈ wsX5_init := List.mem_cons_of_mem _ (List.mem_append_left _ (List.mem_of_getElem? (i := 7) rfl))
theorem m_X5_init_f23 : Cond.fieldLink RX5 23 "LongestMet$Sheets" "latest" "I" ∈ wsX5_init := List.mem_cons_of_mem _ (List.mem_append_left _ (List.mem_of_getElem? (i := 8) rfl))
set_option maxRecDepth 100000 in
set_option maxHeartbeats 4000000 in
theorem k_X5_init {l : Launch} {D : va_G} {g : zGx} : cMet l D (zT g) yX5_init wsX5_init rm_X5_init (.inr (4, [.null, .null, .null, .int 0])) (sh_X5 g) 7 252 := by
  refine cmet_of (by decide +kernel) rfl rfl (Nat.le_of_ble_eq_true rfl) (fun E A q sz hl hD hE B hi0 hA hsz => ?_)
  refine c_aload_n B 0 dX5_init_0 rfl rfl ?_
  refine c_objInit B m_X5_init_oi1 m_X5_init_oi2 m_X5_init_oi3 (Nat.le_of_ble_eq_true rfl) (Nat.le_of_ble_eq_true rfl) dX5_init_1 ?_
  refine c_aload_n B 0 dX5_init_4 rfl rfl ?_
  refine c_iconst B (4 : Int32) dX5_init_5 (by decide) ?_
  refine c_bipush B (60 : Int32) dX5_init_6 (by decide) ?_
  refine c_mna B 4 60 rfl rfl m_X5_init_acint m_X5_init_cl9 (by decide) (by decide) (by decide) (by decide) (Nat.le_of_ble_eq_true rfl) (Nat.le_of_ble_eq_true rfl) (Nat.le_of_ble_eq_true rfl) (Nat.le_of_ble_eq_true rfl) (Nat.le_of_ble_eq_true rfl) dX5_init_8 (fun p0 rr => ?_)
  show cJ E A _ ((q, .inr (4, [.null, .null, .null, .int 0])) :: ([] ++ ((p0, .inl (g.2.2.2.1, 4, .inr (.inr (.inr (.inr (fun z => some (rr z))))))) :: (List.range 4).map (fun i => (rr i, (.inl (g.2.1, 60, .inl (fun _ => 0)) : va_E)))))) 5 244 12 [(0, .ref q)] [.ref p0, .ref q]
  refine c_putF (ty := (.array (.array .int))) B hi0 4 0 tyX5 tyX5_ok nmX5 rfl m_X5_init_inX5 (Nat.le_of_ble_eq_true rfl) m_X5_init_f11 rfl rfl (by decide +kernel) rfl rfl (Nat.le_of_ble_eq_true rfl) dX5_init_12 ?_
  show cJ E A _ ((q, .inr (4, [.ref p0, .null, .null, .int 0])) :: ([] ++ ((p0, .inl (g.2.2.2.1, 4, .inr (.inr (.inr (.inr (fun z => some (rr z))))))) :: (List.range 4).map (fun i => (rr i, (.inl (g.2.1, 60, .inl (fun _ => 0)) : va_E)))))) 5 244 15 [(0, .ref q)] []
  refine c_aload_n B 0 dX5_init_15 rfl rfl ?_
  refine c_iconst B (4 : Int32) dX5_init_16 (by decide) ?_
  refine c_newI B 0 4 rfl m_X5_init_acint (by decide) (by decide) (Nat.le_of_ble_eq_true rfl) (Nat.le_of_ble_eq_true rfl) (Nat.le_of_ble_eq_true rfl) dX5_init_17 (fun p1 => ?_)
  show cJ E A _ ((q, .inr (4, [.ref p0, .null, .null, .int 0])) :: (([] ++ ((p0, .inl (g.2.2.2.1, 4, .inr (.inr (.inr (.inr (fun z => some (rr z))))))) :: (List.range 4).map (fun i => (rr i, (.inl (g.2.1, 60, .inl (fun _ => 0)) : va_E))))) ++ [(p1, .inl (g.2.1, 4, .inl (fun _ => 0)))])) 6 248 19 [(0, .ref q)] [.ref p1, .ref q]
  refine c_putF (ty := (.array .int)) B hi0 4 1 tyX5 tyX5_ok nmX5 rfl m_X5_init_inX5 (Nat.le_of_ble_eq_true rfl) m_X5_init_f16 rfl rfl (by decide +kernel) rfl rfl (Nat.le_of_ble_eq_true rfl) dX5_init_19 ?_
  show cJ E A _ ((q, .inr (4, [.ref p0, .ref p1, .null, .int 0])) :: (([] ++ ((p0, .inl (g.2.2.2.1, 4, .inr (.inr (.inr (.inr (fun z => some (rr z))))))) :: (List.range 4).map (fun i => (rr i, (.inl (g.2.1, 60, .inl (fun _ => 0)) : va_E))))) ++ [(p1, .inl (g.2.1, 4, .inl (fun _ => 0)))])) 6 248 22 [(0, .ref q)] []
  refine c_aload_n B 0 dX5_init_22 rfl rfl ?_
  refine c_iconst B (4 : Int32) dX5_init_23 (by decide) ?_
  refine c_newI B 0 4 rfl m_X5_init_acint (by decide) (by decide) (Nat.le_of_ble_eq_true rfl) (Nat.le_of_ble_eq_true rfl) (Nat.le_of_ble_eq_true rfl) dX5_init_24 (fun p2 => ?_)
  show cJ E A _ ((q, .inr (4, [.ref p0, .ref p1, .null, .int 0])) :: ((([] ++ ((p0, .inl (g.2.2.2.1, 4, .inr (.inr (.inr (.inr (fun z => some (rr z))))))) :: (List.range 4).map (fun i => (rr i, (.inl (g.2.1, 60, .inl (fun _ => 0)) : va_E))))) ++ [(p1, .inl (g.2.1, 4, .inl (fun _ => 0)))]) ++ [(p2, .inl (g.2.1, 4, .inl (fun _ => 0)))])) 7 252 26 [(0, .ref q)] [.ref p2, .ref q]
  refine c_putF (ty := (.array .int)) B hi0 4 2 tyX5 tyX5_ok nmX5 rfl m_X5_init_inX5 (Nat.le_of_ble_eq_true rfl) m_X5_init_f20 rfl rfl (by decide +kernel) rfl rfl (Nat.le_of_ble_eq_true rfl) dX5_init_26 ?_
  show cJ E A _ ((q, .inr (4, [.ref p0, .ref p1, .ref p2, .int 0])) :: ((([] ++ ((p0, .inl (g.2.2.2.1, 4, .inr (.inr (.inr (.inr (fun z => some (rr z))))))) :: (List.range 4).map (fun i => (rr i, (.inl (g.2.1, 60, .inl (fun _ => 0)) : va_E))))) ++ [(p1, .inl (g.2.1, 4, .inl (fun _ => 0)))]) ++ [(p2, .inl (g.2.1, 4, .inl (fun _ => 0)))])) 7 252 29 [(0, .ref q)] []
  refine c_aload_n B 0 dX5_init_29 rfl rfl ?_
  refine c_iconst B (0 : Int32) dX5_init_30 (by decide) ?_
  refine c_put (ty := .int) B 4 3 tyX5 tyX5_ok nmX5 rfl m_X5_init_inX5 (Nat.le_of_ble_eq_true rfl) m_X5_init_f23 rfl (by decide +kernel) rfl rfl (Nat.le_of_ble_eq_true rfl) dX5_init_31 ?_
  show cJ E A _ ((q, .inr (4, [.ref p0, .ref p1, .ref p2, .int (0 : Int32)])) :: ((([] ++ ((p0, .inl (g.2.2.2.1, 4, .inr (.inr (.inr (.inr (fun z => some (rr z))))))) :: (List.range 4).map (fun i => (rr i, (.inl (g.2.1, 60, .inl (fun _ => 0)) : va_E))))) ++ [(p1, .inl (g.2.1, 4, .inl (fun _ => 0)))]) ++ [(p2, .inl (g.2.1, 4, .inl (fun _ => 0)))])) 7 252 34 [(0, .ref q)] []
  refine c_iconst B (0 : Int32) dX5_init_34 (by decide) ?_
  refine c_istore_n (lv' := [(1, .int (0 : Int32)), (0, .ref q)]) B dX5_init_35 rfl (by rw [hE]; decide) rfl ?_
  refine c_iload_n B 0 dX5_init_36 rfl rfl ?_
  refine c_iconst B (4 : Int32) dX5_init_37 (by decide) ?_
  refine c_icmp_ge B 54 dX5_init_38 (by decide) (fun h => absurd h (by decide)) (fun _ => ?_)
  refine c_aload_n B 1 dX5_init_41 rfl rfl ?_
  refine c_get B 4 2 rfl m_X5_init_inX5 (Nat.le_of_ble_eq_true rfl) m_X5_init_f20 rfl dX5_init_42 ?_
  refine c_iload_n B 0 dX5_init_45 rfl rfl ?_
  refine c_iconst B (-1 : Int32) dX5_init_46 (by decide) ?_
  refine c_iast (ws' := ((q, .inr (4, [.ref p0, .ref p1, .ref p2, .int (0 : Int32)])) :: ((([] ++ ((p0, .inl (g.2.2.2.1, 4, .inr (.inr (.inr (.inr (fun z => some (rr z))))))) :: (List.range 4).map (fun i => (rr i, (.inl (g.2.1, 60, .inl (fun _ => 0)) : va_E))))) ++ [(p1, .inl (g.2.1, 4, .inl (fun _ => 0)))]) ++ [(p2, .inl (g.2.1, 4, .inl (upd (fun _ => 0) 0 (-1))))]))) B 7 0 rfl rfl (by unfold vp_in; decide) rfl dX5_init_47 ?_
  refine c_iinc (lv' := [(1, .int (1 : Int32)), (0, .ref q)]) B 0 (1 : Int32) dX5_init_48 rfl (by decide) (by rw [hE]; decide) rfl ?_
  refine c_goto B 36 dX5_init_51 (by decide) ?_
  refine c_iload_n B 0 dX5_init_36 rfl rfl ?_
  refine c_iconst B (4 : Int32) dX5_init_37 (by decide) ?_
  refine c_icmp_ge B 54 dX5_init_38 (by decide) (fun h => absurd h (by decide)) (fun _ => ?_)
  refine c_aload_n B 1 dX5_init_41 rfl rfl ?_
  refine c_get B 4 2 rfl m_X5_init_inX5 (Nat.le_of_ble_eq_true rfl) m_X5_init_f20 rfl dX5_init_42 ?_
  refine c_iload_n B 0 dX5_init_45 rfl rfl ?_
  refine c_iconst B (-1 : Int32) dX5_init_46 (by decide) ?_
  refine c_iast (ws' := ((q, .inr (4, [.ref p0, .ref p1, .ref p2, .int (0 : Int32)])) :: ((([] ++ ((p0, .inl (g.2.2.2.1, 4, .inr (.inr (.inr (.inr (fun z => some (rr z))))))) :: (List.range 4).map (fun i => (rr i, (.inl (g.2.1, 60, .inl (fun _ => 0)) : va_E))))) ++ [(p1, .inl (g.2.1, 4, .inl (fun _ => 0)))]) ++ [(p2, .inl (g.2.1, 4, .inl (upd (upd (fun _ => 0) 0 (-1)) 1 (-1))))]))) B 7 0 rfl rfl (by unfold vp_in; decide) rfl dX5_init_47 ?_
  refine c_iinc (lv' := [(1, .int (2 : Int32)), (0, .ref q)]) B 0 (2 : Int32) dX5_init_48 rfl (by decide) (by rw [hE]; decide) rfl ?_
  refine c_goto B 36 dX5_init_51 (by decide) ?_
  refine c_iload_n B 0 dX5_init_36 rfl rfl ?_
  refine c_iconst B (4 : Int32) dX5_init_37 (by decide) ?_
  refine c_icmp_ge B 54 dX5_init_38 (by decide) (fun h => absurd h (by decide)) (fun _ => ?_)
  refine c_aload_n B 1 dX5_init_41 rfl rfl ?_
  refine c_get B 4 2 rfl m_X5_init_inX5 (Nat.le_of_ble_eq_true rfl) m_X5_init_f20 rfl dX5_init_42 ?_
  refine c_iload_n B 0 dX5_init_45 rfl rfl ?_
  refine c_iconst B (-1 : Int32) dX5_init_46 (by decide) ?_
  refine c_iast (ws' := ((q, .inr (4, [.ref p0, .ref p1, .ref p2, .int (0 : Int32)])) :: ((([] ++ ((p0, .inl (g.2.2.2.1, 4, .inr (.inr (.inr (.inr (fun z => some (rr z))))))) :: (List.range 4).map (fun i => (rr i, (.inl (g.2.1, 60, .inl (fun _ => 0)) : va_E))))) ++ [(p1, .inl (g.2.1, 4, .inl (fun _ => 0)))]) ++ [(p2, .inl (g.2.1, 4, .inl (upd (upd (upd (fun _ => 0) 0 (-1)) 1 (-1)) 2 (-1))))]))) B 7 0 rfl rfl (by unfold vp_in; decide) rfl dX5_init_47 ?_
  refine c_iinc (lv' := [(1, .int (3 : Int32)), (0, .ref q)]) B 0 (3 : Int32) dX5_init_48 rfl (by decide) (by rw [hE]; decide) rfl ?_
  refine c_goto B 36 dX5_init_51 (by decide) ?_
  refine c_iload_n B 0 dX5_init_36 rfl rfl ?_
  refine c_iconst B (4 : Int32) dX5_init_37 (by decide) ?_
  refine c_icmp_ge B 54 dX5_init_38 (by decide) (fun h => absurd h (by decide)) (fun _ => ?_)
  refine c_aload_n B 1 dX5_init_41 rfl rfl ?_
  refine c_get B 4 2 rfl m_X5_init_inX5 (Nat.le_of_ble_eq_true rfl) m_X5_init_f20 rfl dX5_init_42 ?_
  refine c_iload_n B 0 dX5_init_45 rfl rfl ?_
  refine c_iconst B (-1 : Int32) dX5_init_46 (by decide) ?_
  refine c_iast (ws' := ((q, .inr (4, [.ref p0, .ref p1, .ref p2, .int (0 : Int32)])) :: ((([] ++ ((p0, .inl (g.2.2.2.1, 4, .inr (.inr (.inr (.inr (fun z => some (rr z))))))) :: (List.range 4).map (fun i => (rr i, (.inl (g.2.1, 60, .inl (fun _ => 0)) : va_E))))) ++ [(p1, .inl (g.2.1, 4, .inl (fun _ => 0)))]) ++ [(p2, .inl (g.2.1, 4, .inl (upd (upd (upd (upd (fun _ => 0) 0 (-1)) 1 (-1)) 2 (-1)) 3 (-1))))]))) B 7 0 rfl rfl (by unfold vp_in; decide) rfl dX5_init_47 ?_
  refine c_iinc (lv' := [(1, .int (4 : Int32)), (0, .ref q)]) B 0 (4 : Int32) dX5_init_48 rfl (by decide) (by rw [hE]; decide) rfl ?_
  refine c_goto B 36 dX5_init_51 (by decide) ?_
  refine c_iload_n B 0 dX5_init_36 rfl rfl ?_
  refine c_iconst B (4 : Int32) dX5_init_37 (by decide) ?_
  refine c_icmp_ge B 54 dX5_init_38 (by decide) (fun _ => ?_) (fun h => absurd (by decide) h)
  exact c_vret B hi0 hD (fun k => [p0, p1, p2].getD k 0, rr) hA hsz rfl (Nat.le_of_ble_eq_true rfl) (Nat.le_of_ble_eq_true rfl) dX5_init_54
def sh_X10 (g : zGx) (q : Nat) (u : ((Nat → Nat) × (Nat → cU))) : va_W := (q, .inr (9, [.ref (u.1 0), .ref (u.1 1), .ref (u.1 2), .ref (u.1 3), .ref (u.1 4), .ref (u.1 5), .ref (u.1 6), .ref (u.1 7), .ref (u.1 8)])) :: ((((((((([] ++ sh_X8 g (u.1 0) (u.2 0)) ++ sh_X6 g (u.1 1) (u.2 1)) ++ sh_X3 g (u.1 2) (u.2 2)) ++ sh_X7 g (u.1 3) (u.2 3)) ++ sh_X1 g (u.1 4) (u.2 4)) ++ sh_X9 g (u.1 5) (u.2 5)) ++ sh_X0 g (u.1 6) (u.2 6)) ++ sh_X4 g (u.1 7) (u.2 7)) ++ sh_X5 g (u.1 8) (u.2 8))
abbrev rm_X10_init : Room := { frames := 2, cells := 45, slots := 653, locals := 33 }
theorem m_X10_init_oi1 : Cond.methodLink RX10 1 objectInit ∈ wsX10_init := List.mem_cons_of_mem _ (List.mem_append_left _ (List.mem_append_left _ (List.mem_append_left _ (List.mem_append_left _ (List.mem_append_left _ (List.mem_append_left _ (List.mem_append_left _ (List.mem_append_left _ (List.mem_append_left _ (List.mem_append_left _ (List.mem_append_left _ (List.mem_of_getElem? (i := 0) rfl))))))))))))
theorem m_X10_init_oi2 : Cond.instanceMethod objectInit ∈ wsX10_init := List.mem_cons_of_mem _ (List.mem_append_left _ (List.mem_append_left _ (List.mem_append_left _ (List.mem_append_left _ (List.mem_append_left _ (List.mem_append_left _ (List.mem_append_left _ (List.mem_append_left _ (List.mem_append_left _ (List.mem_append_left _ (List.mem_append_left _ (List.mem_of_getElem? (i := 1) rfl))))))))))))
theorem m_X10_init_oi3 : Cond.code objectInit ⟨#[0xb1]⟩ 1 none ∈ wsX10_init := List.mem_cons_of_mem _ (List.mem_append_left _ (List.mem_append_left _ (List.mem_append_left _ (List.mem_append_left _ (List.mem_append_left _ (List.mem_append_left _ (List.mem_append_left _ (List.mem_append_left _ (List.mem_append_left _ (List.mem_append_left _ (List.mem_append_left _ (List.mem_of_getElem? (i := 2) rfl))))))))))))
theorem m_X10_init_cl7 : Cond.classLink RX10 7 RX8 ∈ wsX10_init := List.mem_cons_of_mem _ (List.mem_append_left _ (List.mem_append_left _ (List.mem_append_left _ (List.mem_append_left _ (List.mem_append_left _ (List.mem_append_left _ (List.mem_append_left _ (List.mem_append_left _ (List.mem_append_left _ (List.mem_append_left _ (List.mem_append_left _ (List.mem_of_getElem? (i := 3) rfl))))))))))))
theorem m_X10_init_inX8x : Cond.instantiable RX8 4 ∈ wsX10_init := List.mem_cons_of_mem _ (List.mem_append_left _ (List.mem_append_left _ (List.mem_append_left _ (List.mem_append_left _ (List.mem_append_left _ (List.mem_append_left _ (List.mem_append_left _ (List.mem_append_left _ (List.mem_append_left _ (List.mem_append_left _ (List.mem_append_left _ (List.mem_of_getElem? (i := 4) rfl))))))))))))
theorem m_X10_init_iX8 : Cond.initialized RX8 ∈ wsX10_init := List.mem_cons_of_mem _ (List.mem_append_left _ (List.mem_append_left _ (List.mem_append_left _ (List.mem_append_left _ (List.mem_append_left _ (List.mem_append_left _ (List.mem_append_left _ (List.mem_append_left _ (List.mem_append_left _ (List.mem_append_left _ (List.mem_append_left _ (List.mem_of_getElem? (i := 5) rfl))))))))))))
theorem m_X10_init_inX8 : ∀ x ∈ u_ws RX8 TX8 4, x ∈ wsX10_init := fun _ h => List.mem_cons_of_mem _ (List.mem_append_left _ (List.mem_append_left _ (List.mem_append_left _ (List.mem_append_left _ (List.mem_append_left _ (List.mem_append_left _ (List.mem_append_left _ (List.mem_append_left _ (List.mem_append_left _ (List.mem_append_right _ h))))))))))
theorem m_X10_init_nX8 : Cond.instanceMethod yX8_init ∈ wsX10_init := List.mem_cons_of_mem _ (List.mem_append_left _ (List.mem_append_left _ (List.mem_append_left _ (List.mem_append_left _ (List.mem_append_left _ (List.mem_append_left _ (List.mem_append_left _ (List.mem_append_left _ (List.mem_append_left _ (List.mem_append_left _ (List.mem_append_right _ (List.mem_append_left _ (List.mem_of_getElem? (i := 15) rfl)))))))))))))
theorem m_X10_init_f10 : Cond.fieldLink RX10 10 "LongestMet" "text" "LLongestMet$Text;" ∈ wsX10_init := List.mem_cons_of_mem _ (List.mem_append_left _ (List.mem_append_left _ (List.mem_append_left _ (List.mem_append_left _ (List.mem_append_left _ (List.mem_append_left _ (List.mem_append_left _ (List.mem_append_left _ (List.mem_append_left _ (List.mem_append_left _ (List.mem_append_left _ (List.mem_of_getElem? (i := 6) rfl))))))))))))
theorem m_X10_init_inX10 : ∀ x ∈ u_ws RX10 TX10 9, x ∈ wsX10_init := fun _ h => List.mem_cons_of_mem _ (List.mem_append_left _ (List.mem_append_left _ (List.mem_append_left _ (List.mem_append_left _ (List.mem_append_left _ (List.mem_append_left _ (List.mem_append_left _ (List.mem_append_left _ (List.mem_append_right _ h)))))))))
theorem m_X10_init_cl16 : Cond.classLink RX10 16 RX6 ∈ wsX10_init := List.mem_cons_of_mem _ (List.mem_append_left _ (List.mem_append_left _ (List.mem_append_left _ (List.mem_append_left _ (List.mem_append_left _ (List.mem_append_left _ (List.mem_append_left _ (List.mem_append_left _ (List.mem_append_left _ (List.mem_append_left _ (List.mem_append_left _ (List.mem_of_getElem? (i := 7) rfl))))))))))))
theorem m_X10_init_inX6x : Cond.instantiable RX6 1 ∈ wsX10_init := List.mem_cons_of_mem _ (List.mem_append_left _ (List.mem_append_left _ (List.mem_append_left _ (List.mem_append_left _ (List.mem_append_left _ (List.mem_append_left _ (List.mem_append_left _ (List.mem_append_left _ (List.mem_append_left _ (List.mem_append_left _ (List.mem_append_left _ (List.mem_of_getElem? (i := 8) rfl))))))))))))
theorem m_X10_init_iX6 : Cond.initialized RX6 ∈ wsX10_init := List.mem_cons_of_mem _ (List.mem_append_left _ (List.mem_append_left _ (List.mem_append_left _ (List.mem_append_left _ (List.mem_append_left _ (List.mem_append_left _ (List.mem_append_left _ (List.mem_append_left _ (List.mem_append_left _ (List.mem_append_left _ (List.mem_append_left _ (List.mem_of_getElem? (i := 9) rfl))))))))))))
theorem m_X10_init_inX6 : ∀ x ∈ u_ws RX6 TX6 1, x ∈ wsX10_init := fun _ h => List.mem_cons_of_mem _ (List.mem_append_left _ (List.mem_append_left _ (List.mem_append_left _ (List.mem_append_left _ (List.mem_append_left _ (List.mem_append_left _ (List.mem_append_left _ (List.mem_append_right _ h))))))))
theorem m_X10_init_nX6 : Cond.instanceMethod yX6_init ∈ wsX10_init := List.mem_cons_of_mem _ (List.mem_append_left _ (List.mem_append_left _ (List.mem_append_left _ (List.mem_append_left _ (List.mem_append_left _ (List.mem_append_left _ (List.mem_append_left _ (List.mem_append_left _ (List.mem_append_left _ (List.mem_append_left _ (List.mem_append_right _ (List.mem_append_left _ (List.mem_of_getElem? (i := 23) rfl)))))))))))))
theorem m_X10_init_f19 : Cond.fieldLink RX10 19 "LongestMet" "stop" "LLongestMet$Stop;" ∈ wsX10_init := List.mem_cons_of_mem _ (List.mem_append_left _ (List.mem_append_left _ (List.mem_append_left _ (List.mem_append_left _ (List.mem_append_left _ (List.mem_append_left _ (List.mem_append_left _ (List.mem_append_left _ (List.mem_append_left _ (List.mem_append_left _ (List.mem_append_left _ (List.mem_of_getElem? (i := 10) rfl))))))))))))
theorem m_X10_init_cl23 : Cond.classLink RX10 23 RX3 ∈ wsX10_init := List.mem_cons_of_mem _ (List.mem_append_left _ (List.mem_append_left _ (List.mem_append_left _ (List.mem_append_left _ (List.mem_append_left _ (List.mem_append_left _ (List.mem_append_left _ (List.mem_append_left _ (List.mem_append_left _ (List.mem_append_left _ (List.mem_append_left _ (List.mem_of_getElem? (i := 11) rfl))))))))))))
theorem m_X10_init_inX3x : Cond.instantiable RX3 5 ∈ wsX10_init := List.mem_cons_of_mem _ (List.mem_append_left _ (List.mem_append_left _ (List.mem_append_left _ (List.mem_append_left _ (List.mem_append_left _ (List.mem_append_left _ (List.mem_append_left _ (List.mem_append_left _ (List.mem_append_left _ (List.mem_append_left _ (List.mem_append_left _ (List.mem_of_getElem? (i := 12) rfl))))))))))))
theorem m_X10_init_iX3 : Cond.initialized RX3 ∈ wsX10_init := List.mem_cons_of_mem _ (List.mem_append_left _ (List.mem_append_left _ (List.mem_append_left _ (List.mem_append_left _ (List.mem_append_left _ (List.mem_append_left _ (List.mem_append_left _ (List.mem_append_left _ (List.mem_append_left _ (List.mem_append_left _ (List.mem_append_left _ (List.mem_of_getElem? (i := 13) rfl))))))))))))
theorem m_X10_init_inX3 : ∀ x ∈ u_ws RX3 TX3 5, x ∈ wsX10_init := fun _ h => List.mem_cons_of_mem _ (List.mem_append_left _ (List.mem_append_left _ (List.mem_append_left _ (List.mem_append_left _ (List.mem_append_left _ (List.mem_append_left _ (List.mem_append_right _ h)))))))
theorem m_X10_init_nX3 : Cond.instanceMethod yX3_init ∈ wsX10_init := List.mem_cons_of_mem _ (List.mem_append_left _ (List.mem_append_left _ (List.mem_append_left _ (List.mem_append_left _ (List.mem_append_left _ (List.mem_append_left _ (List.mem_append_left _ (List.mem_append_left _ (List.mem_append_left _ (List.mem_append_left _ (List.mem_append_right _ (List.mem_append_right _ (List.mem_append_left _ (List.mem_of_getElem? (i := 4) rfl))))))))))))))
theorem m_X10_init_f26 : Cond.fieldLink RX10 26 "LongestMet" "holding" "LLongestMet$Holding;" ∈ wsX10_init := List.mem_cons_of_mem _ (List.mem_append_left _ (List.mem_append_left _ (List.mem_append_left _ (List.mem_append_left _ (List.mem_append_left _ (List.mem_append_left _ (List.mem_append_left _ (List.mem_append_left _ (List.mem_append_left _ (List.mem_append_left _ (List.mem_append_left _ (List.mem_of_getElem? (i := 14) rfl))))))))))))
theorem m_X10_init_cl30 : Cond.classLink RX10 30 RX7 ∈ wsX10_init := List.mem_cons_of_mem _ (List.mem_append_left _ (List.mem_append_left _ (List.mem_append_left _ (List.mem_append_left _ (List.mem_append_left _ (List.mem_append_left _ (List.mem_append_left _ (List.mem_append_left _ (List.mem_append_left _ (List.mem_append_left _ (List.mem_append_left _ (List.mem_of_getElem? (i := 15) rfl))))))))))))
theorem m_X10_init_inX7x : Cond.instantiable RX7 6 ∈ wsX10_init := List.mem_cons_of_mem _ (List.mem_append_left _ (List.mem_append_left _ (List.mem_append_left _ (List.mem_append_left _ (List.mem_append_left _ (List.mem_append_left _ (List.mem_append_left _ (List.mem_append_left _ (List.mem_append_left _ (List.mem_append_left _ (List.mem_append_left _ (List.mem_of_getElem? (i := 16) rfl))))))))))))
theorem m_X10_init_iX7 : Cond.initialized RX7 ∈ wsX10_init := List.mem_cons_of_mem _ (List.mem_append_left _ (List.mem_append_left _ (List.mem_append_left _ (List.mem_append_left _ (List.mem_append_left _ (List.mem_append_left _ (List.mem_append_left _ (List.mem_append_left _ (List.mem_append_left _ (List.mem_append_left _ (List.mem_append_left _ (List.mem_of_getElem? (i := 17) rfl))))))))))))
theorem m_X10_init_inX7 : ∀ x ∈ u_ws RX7 TX7 6, x ∈ wsX10_init := fun _ h => List.mem_cons_of_mem _ (List.mem_append_left _ (List.mem_append_left _ (List.mem_append_left _ (List.mem_append_left _ (List.mem_append_left _ (List.mem_append_right _ h))))))
theorem m_X10_init_nX7 : Cond.instanceMethod yX7_init ∈ wsX10_init := List.mem_cons_of_mem _ (List.mem_append_left _ (List.mem_append_left _ (List.mem_append_left _ (List.mem_append_left _ (List.mem_append_left _ (List.mem_append_left _ (List.mem_append_left _ (List.mem_append_left _ (List.mem_append_left _ (List.mem_append_left _ (List.mem_append_right _ (List.mem_append_right _ (List.mem_append_left _ (List.mem_of_getElem? (i := 13) rfl))))))))))))))
theorem m_X10_init_f33 : Cond.fieldLink RX10 33 "LongestMet" "survey" "LLongestMet$Survey;" ∈ wsX10_init := List.mem_cons_of_mem _ (List.mem_append_left _ (List.mem_append_left _ (List.mem_append_left _ (List.mem_append_left _ (List.mem_append_left _ (List.mem_append_left _ (List.mem_append_left _ (List.mem_append_left _ (List.mem_append_left _ (List.mem_append_left _ (List.mem_append_left _ (List.mem_of_getElem? (i := 18) rfl))))))))))))
theorem m_X10_init_cl37 : Cond.classLink RX10 37 RX1 ∈ wsX10_init := List.mem_cons_of_mem _ (List.mem_append_left _ (List.mem_append_left _ (List.mem_append_left _ (List.mem_append_left _ (List.mem_append_left _ (List.mem_append_left _ (List.mem_append_left _ (List.mem_append_left _ (List.mem_append_left _ (List.mem_append_left _ (List.mem_append_left _ (List.mem_of_getElem? (i := 19) rfl))))))))))))
theorem m_X10_init_inX1x : Cond.instantiable RX1 1 ∈ wsX10_init := List.mem_cons_of_mem _ (List.mem_append_left _ (List.mem_append_left _ (List.mem_append_left _ (List.mem_append_left _ (List.mem_append_left _ (List.mem_append_left _ (List.mem_append_left _ (List.mem_append_left _ (List.mem_append_left _ (List.mem_append_left _ (List.mem_append_left _ (List.mem_of_getElem? (i := 20) rfl))))))))))))
theorem m_X10_init_iX1 : Cond.initialized RX1 ∈ wsX10_init := List.mem_cons_of_mem _ (List.mem_append_left _ (List.mem_append_left _ (List.mem_append_left _ (List.mem_append_left _ (List.mem_append_left _ (List.mem_append_left _ (List.mem_append_left _ (List.mem_append_left _ (List.mem_append_left _ (List.mem_append_left _ (List.mem_append_left _ (List.mem_of_getElem? (i := 21) rfl))))))))))))
theorem m_X10_init_inX1 : ∀ x ∈ u_ws RX1 TX1 1, x ∈ wsX10_init := fun _ h => List.mem_cons_of_mem _ (List.mem_append_left _ (List.mem_append_left _ (List.mem_append_left _ (List.mem_append_left _ (List.mem_append_right _ h)))))
theorem m_X10_init_nX1 : Cond.instanceMethod yX1_init ∈ wsX10_init := List.mem_cons_of_mem _ (List.mem_append_left _ (List.mem_append_left _ (List.mem_append_left _ (List.mem_append_left _ (List.mem_append_left _ (List.mem_append_left _ (List.mem_append_left _ (List.mem_append_left _ (List.mem_append_left _ (List.mem_append_left _ (List.mem_append_right _ (List.mem_append_right _ (List.mem_append_left _ (List.mem_of_getElem? (i := 22) rfl))))))))))))))
theorem m_X10_init_f40 : Cond.fieldLink RX10 40 "LongestMet" "country" "LLongestMet$Country;" ∈ wsX10_init := List.mem_cons_of_mem _ (List.mem_append_left _ (List.mem_append_left _ (List.mem_append_left _ (List.mem_append_left _ (List.mem_append_left _ (List.mem_append_left _ (List.mem_append_left _ (List.mem_append_left _ (List.mem_append_left _ (List.mem_append_left _ (List.mem_append_left _ (List.mem_of_getElem? (i := 22) rfl))))))))))))
theorem m_X10_init_cl44 : Cond.classLink RX10 44 RX9 ∈ wsX10_init := List.mem_cons_of_mem _ (List.mem_append_left _ (List.mem_append_left _ (List.mem_append_left _ (List.mem_append_left _ (List.mem_append_left _ (List.mem_append_left _ (List.mem_append_left _ (List.mem_append_left _ (List.mem_append_left _ (List.mem_append_left _ (List.mem_append_left _ (List.mem_of_getElem? (i := 23) rfl))))))))))))
theorem m_X10_init_inX9x : Cond.instantiable RX9 3 ∈ wsX10_init := List.mem_cons_of_mem _ (List.mem_append_left _ (List.mem_append_left _ (List.mem_append_left _ (List.mem_append_left _ (List.mem_append_left _ (List.mem_append_left _ (List.mem_append_left _ (List.mem_append_left _ (List.mem_append_left _ (List.mem_append_left _ (List.mem_append_right _ (List.mem_append_left _ (List.mem_of_getElem? (i := 0) rfl)))))))))))))
theorem m_X10_init_iX9 : Cond.initialized RX9 ∈ wsX10_init := List.mem_cons_of_mem _ (List.mem_append_left _ (List.mem_append_left _ (List.mem_append_left _ (List.mem_append_left _ (List.mem_append_left _ (List.mem_append_left _ (List.mem_append_left _ (List.mem_append_left _ (List.mem_append_left _ (List.mem_append_left _ (List.mem_append_right _ (List.mem_append_left _ (List.mem_of_getElem? (i := 1) rfl)))))))))))))
theorem m_X10_init_inX9 : ∀ x ∈ u_ws RX9 TX9 3, x ∈ wsX10_init := fun _ h => List.mem_cons_of_mem _ (List.mem_append_left _ (List.mem_append_left _ (List.mem_append_left _ (List.mem_append_right _ h))))
theorem m_X10_init_nX9 : Cond.instanceMethod yX9_init ∈ wsX10_init := List.mem_cons_of_mem _ (List.mem_append_left _ (List.mem_append_left _ (List.mem_append_left _ (List.mem_append_left _ (List.mem_append_left _ (List.mem_append_left _ (List.mem_append_left _ (List.mem_append_left _ (List.mem_append_left _ (List.mem_append_left _ (List.mem_append_right _ (List.mem_append_right _ (List.mem_append_right _ (List.mem_append_left _ (List.mem_of_getElem? (i := 3) rfl)))))))))))))))
theorem m_X10_init_f47 : Cond.fieldLink RX10 47 "LongestMet" "beds" "LLongestMet$Ward;" ∈ wsX10_init := List.mem_cons_of_mem _ (List.mem_append_left _ (List.mem_append_left _ (List.mem_append_left _ (List.mem_append_left _ (List.mem_append_left _ (List.mem_append_left _ (List.mem_append_left _ (List.mem_append_left _ (List.mem_append_left _ (List.mem_append_left _ (List.mem_append_right _ (List.mem_append_left _ (List.mem_of_getElem? (i := 2) rfl)))))))))))))
theorem m_X10_init_cl51 : Cond.classLink RX10 51 RX0 ∈ wsX10_init := List.mem_cons_of_mem _ (List.mem_append_left _ (List.mem_append_left _ (List.mem_append_left _ (List.mem_append_left _ (List.mem_append_left _ (List.mem_append_left _ (List.mem_append_left _ (List.mem_append_left _ (List.mem_append_left _ (List.mem_append_left _ (List.mem_append_right _ (List.mem_append_left _ (List.mem_of_getElem? (i := 3) rfl)))))))))))))
theorem m_X10_init_inX0x : Cond.instantiable RX0 1 ∈ wsX10_init := List.mem_cons_of_mem _ (List.mem_append_left _ (List.mem_append_left _ (List.mem_append_left _ (List.mem_append_left _ (List.mem_append_left _ (List.mem_append_left _ (List.mem_append_left _ (List.mem_append_left _ (List.mem_append_left _ (List.mem_append_left _ (List.mem_append_right _ (List.mem_append_left _ (List.mem_of_getElem? (i := 4) rfl)))))))))))))
theorem m_X10_init_iX0 : Cond.initialized RX0 ∈ wsX10_init := List.mem_cons_of_mem _ (List.mem_append_left _ (List.mem_append_left _ (List.mem_append_left _ (List.mem_append_left _ (List.mem_append_left _ (List.mem_append_left _ (List.mem_append_left _ (List.mem_append_left _ (List.mem_append_left _ (List.mem_append_left _ (List.mem_append_right _ (List.mem_append_left _ (List.mem_of_getElem? (i := 5) rfl)))))))))))))
theorem m_X10_init_inX0 : ∀ x ∈ u_ws RX0 TX0 1, x ∈ wsX10_init := fun _ h => List.mem_cons_of_mem _ (List.mem_append_left _ (List.mem_append_left _ (List.mem_append_right _ h)))
theorem m_X10_init_nX0 : Cond.instanceMethod yX0_init ∈ wsX10_init := List.mem_cons_of_mem _ (List.mem_append_left _ (List.mem_append_left _ (List.mem_append_left _ (List.mem_append_left _ (List.mem_append_left _ (List.mem_append_left _ (List.mem_append_left _ (List.mem_append_left _ (List.mem_append_left _ (List.mem_append_left _ (List.mem_append_right _ (List.mem_append_right _ (List.mem_append_right _ (List.mem_append_left _ (List.mem_of_getElem? (i := 9) rfl)))))))))))))))
theorem m_X10_init_f54 : Cond.fieldLink RX10 54 "LongestMet" "circle" "LLongestMet$Circle;" ∈ wsX10_init := List.mem_cons_of_mem _ (List.mem_append_left _ (List.mem_append_left _ (List.mem_append_left _ (List.mem_append_left _ (List.mem_append_left _ (List.mem_append_left _ (List.mem_append_left _ (List.mem_append_left _ (List.mem_append_left _ (List.mem_append_left _ (List.mem_append_right _ (List.mem_append_left _ (List.mem_of_getElem? (i := 6) rfl)))))))))))))
theorem m_X10_init_cl58 : Cond.classLink RX10 58 RX4 ∈ wsX10_init := List.mem_cons_of_mem _ (List.mem_append_left _ (List.mem_append_left _ (List.mem_append_left _ (List.mem_append_left _ (List.mem_append_left _ (List.mem_append_left _ (List.mem_append_left _ (List.mem_append_left _ (List.mem_append_left _ (List.mem_append_left _ (List.mem_append_right _ (List.mem_append_left _ (List.mem_of_getElem? (i := 7) rfl)))))))))))))
theorem m_X10_init_inX4x : Cond.instantiable RX4 2 ∈ wsX10_init := List.mem_cons_of_mem _ (List.mem_append_left _ (List.mem_append_left _ (List.mem_append_left _ (List.mem_append_left _ (List.mem_append_left _ (List.mem_append_left _ (List.mem_append_left _ (List.mem_append_left _ (List.mem_append_left _ (List.mem_append_left _ (List.mem_append_right _ (List.mem_append_left _ (List.mem_of_getElem? (i := 8) rfl)))))))))))))
theorem m_X10_init_iX4 : Cond.initialized RX4 ∈ wsX10_init := List.mem_cons_of_mem _ (List.mem_append_left _ (List.mem_append_left _ (List.mem_append_left _ (List.mem_append_left _ (List.mem_append_left _ (List.mem_append_left _ (List.mem_append_left _ (List.mem_append_left _ (List.mem_append_left _ (List.mem_append_left _ (List.mem_append_right _ (List.mem_append_left _ (List.mem_of_getElem? (i := 9) rfl)))))))))))))
theorem m_X10_init_inX4 : ∀ x ∈ u_ws RX4 TX4 2, x ∈ wsX10_init := fun _ h => List.mem_cons_of_mem _ (List.mem_append_left _ (List.mem_append_right _ h))
theorem m_X10_init_nX4 : Cond.instanceMethod yX4_init ∈ wsX10_init := List.mem_cons_of_mem _ (List.mem_append_left _ (List.mem_append_left _ (List.mem_append_left _ (List.mem_append_left _ (List.mem_append_left _ (List.mem_append_left _ (List.mem_append_left _ (List.mem_append_left _ (List.mem_append_left _ (List.mem_append_left _ (List.mem_append_right _ (List.mem_append_right _ (List.mem_append_right _ (List.mem_append_left _ (List.mem_of_getElem? (i := 13) rfl)))))))))))))))
theorem m_X10_init_f61 : Cond.fieldLink RX10 61 "LongestMet" "rod" "LLongestMet$Rod;" ∈ wsX10_init := List.mem_cons_of_mem _ (List.mem_append_left _ (List.mem_append_left _ (List.mem_append_left _ (List.mem_append_left _ (List.mem_append_left _ (List.mem_append_left _ (List.mem_append_left _ (List.mem_append_left _ (List.mem_append_left _ (List.mem_append_left _ (List.mem_append_right _ (List.mem_append_left _ (List.mem_of_getElem? (i := 10) rfl)))))))))))))
theorem m_X10_init_cl65 : Cond.classLink RX10 65 RX5 ∈ wsX10_init := List.mem_cons_of_mem _ (List.mem_append_left _ (List.mem_append_left _ (List.mem_append_left _ (List.mem_append_left _ (List.mem_append_left _ (List.mem_append_left _ (List.mem_append_left _ (List.mem_append_left _ (List.mem_append_left _ (List.mem_append_left _ (List.mem_append_right _ (List.mem_append_left _ (List.mem_of_getElem? (i := 11) rfl)))))))))))))
theorem m_X10_init_inX5x : Cond.instantiable RX5 4 ∈ wsX10_init := List.mem_cons_of_mem _ (List.mem_append_left _ (List.mem_append_left _ (List.mem_append_left _ (List.mem_append_left _ (List.mem_append_left _ (List.mem_append_left _ (List.mem_append_left _ (List.mem_append_left _ (List.mem_append_left _ (List.mem_append_left _ (List.mem_append_right _ (List.mem_append_left _ (List.mem_of_getElem? (i := 12) rfl)))))))))))))
theorem m_X10_init_iX5 : Cond.initialized RX5 ∈ wsX10_init := List.mem_cons_of_mem _ (List.mem_append_left _ (List.mem_append_left _ (List.mem_append_left _ (List.mem_append_left _ (List.mem_append_left _ (List.mem_append_left _ (List.mem_append_left _ (List.mem_append_left _ (List.mem_append_left _ (List.mem_append_left _ (List.mem_append_right _ (List.mem_append_left _ (List.mem_of_getElem? (i := 13) rfl)))))))))))))
theorem m_X10_init_inX5 : ∀ x ∈ u_ws RX5 TX5 4, x ∈ wsX10_init := fun _ h => List.mem_cons_of_mem _ (List.mem_append_right _ h)
theorem m_X10_init_nX5 : Cond.instanceMethod yX5_init ∈ wsX10_init := List.mem_cons_of_mem _ (List.mem_append_left _ (List.mem_append_left _ (List.mem_append_left _ (List.mem_append_left _ (List.mem_append_left _ (List.mem_append_left _ (List.mem_append_left _ (List.mem_append_left _ (List.mem_append_left _ (List.mem_append_left _ (List.mem_append_right _ (List.mem_append_right _ (List.mem_append_right _ (List.mem_append_left _ (List.mem_of_getElem? (i := 19) rfl)))))))))))))))
theorem m_X10_init_lX5 : Cond.methodLink RX10 67 yX5_init ∈ wsX10_init := List.mem_cons_of_mem _ (List.mem_append_left _ (List.mem_append_left _ (List.mem_append_left _ (List.mem_append_left _ (List.mem_append_left _ (List.mem_append_left _ (List.mem_append_left _ (List.mem_append_left _ (List.mem_append_left _ (List.mem_append_left _ (List.mem_append_right _ (List.mem_append_right _ (List.mem_append_right _ (List.mem_append_left _ (List.mem_of_getElem? (i := 18) rfl)))))))))))))))
theorem m_X10_init_f68 : Cond.fieldLink RX10 68 "LongestMet" "sheets" "LLongestMet$Sheets;" ∈ wsX10_init := List.mem_cons_of_mem _ (List.mem_append_left _ (List.mem_append_left _ (List.mem_append_left _ (List.mem_append_left _ (List.mem_append_left _ (List.mem_append_left _ (List.mem_append_left _ (List.mem_append_left _ (List.mem_append_left _ (List.mem_append_left _ (List.mem_append_right _ (List.mem_append_left _ (List.mem_of_getElem? (i := 14) rfl)))))))))))))
set_option maxRecDepth 100000 in
set_option maxHeartbeats 4000000 in
theorem k_X10_init {l : Launch} {D : va_G} {g : zGx} : cMet l D (zT g) yX10_init wsX10_init rm_X10_init (.inr (9, [.null, .null, .null, .null, .null, .null, .null, .null, .null])) (sh_X10 g) 45 653 := by
  refine cmet_of (by decide +kernel) rfl rfl (Nat.le_of_ble_eq_true rfl) (fun E A q sz hl hD hE B hi0 hA hsz => ?_)
  refine c_aload_n B 0 dX10_init_0 rfl rfl ?_
  refine c_objInit B m_X10_init_oi1 m_X10_init_oi2 m_X10_init_oi3 (Nat.le_of_ble_eq_true rfl) (Nat.le_of_ble_eq_true rfl) dX10_init_1 ?_
  refine c_aload_n B 0 dX10_init_4 rfl rfl ?_
  refine c_new (fs := [.null, .int 0, .int 0, .long 0]) B 7 4 tyX8 tyX8_ok rfl m_X10_init_inX8 m_X10_init_cl7 m_X10_init_inX8x m_X10_init_iX8 (fun j hj => by rcases (show j = 0 ∨ j = 1 ∨ j = 2 ∨ j = 3 by omega) with rfl | rfl | rfl | rfl <;> rfl) (Nat.le_of_ble_eq_true rfl) (Nat.le_of_ble_eq_true rfl) dX10_init_5 (fun q5 => ?_)
  refine c_dup B rfl dX10_init_8 ?_
  refine c_callN (ws := ((q, .inr (9, [.null, .null, .null, .null, .null, .null, .null, .null, .null])) :: [])) (sh := sh_X8 g) B k_X8_init gX10_init_X8_init_n9 rfl rfl rfl B.2.2.2.2.2.1 m_X10_init_iX8 m_X10_init_nX8 rfl (by decide +kernel) ⟨(Nat.le_of_ble_eq_true rfl), (Nat.le_of_ble_eq_true rfl)⟩ (Nat.le_of_ble_eq_true rfl) (Nat.le_of_ble_eq_true rfl) (Nat.le_of_ble_eq_true rfl) dX10_init_9 (fun u0 => ?_)
  show cJ E A _ ((q, .inr (9, [.null, .null, .null, .null, .null, .null, .null, .null, .null])) :: ([] ++ sh_X8 g q5 u0)) 2 44 12 [(0, .ref q)] [.ref q5, .ref q]
  refine c_putF (ty := (.object "LongestMet$Text")) B hi0 9 0 tyX10 tyX10_ok nmX10 rfl m_X10_init_inX10 (Nat.le_of_ble_eq_true rfl) m_X10_init_f10 rfl rfl (by decide +kernel) rfl rfl (Nat.le_of_ble_eq_true rfl) dX10_init_12 ?_
  show cJ E A _ ((q, .inr (9, [.ref q5, .null, .null, .null, .null, .null, .null, .null, .null])) :: ([] ++ sh_X8 g q5 u0)) 2 44 15 [(0, .ref q)] []
  refine c_aload_n B 0 dX10_init_15 rfl rfl ?_
  refine c_new (fs := [.null]) B 5 1 tyX6 tyX6_ok rfl m_X10_init_inX6 m_X10_init_cl16 m_X10_init_inX6x m_X10_init_iX6 (fun j hj => by rcases (show j = 0 by omega) with rfl <;> rfl) (Nat.le_of_ble_eq_true rfl) (Nat.le_of_ble_eq_true rfl) dX10_init_16 (fun q16 => ?_)
  refine c_dup B rfl dX10_init_19 ?_
  refine c_callN (ws := ((q, .inr (9, [.ref q5, .null, .null, .null, .null, .null, .null, .null, .null])) :: ([] ++ sh_X8 g q5 u0))) (sh := sh_X6 g) B k_X6_init gX10_init_X6_init_n18 rfl rfl rfl B.2.2.2.2.2.2.1 m_X10_init_iX6 m_X10_init_nX6 rfl (by decide +kernel) ⟨(Nat.le_of_ble_eq_true rfl), (Nat.le_of_ble_eq_true rfl)⟩ (Nat.le_of_ble_eq_true rfl) (Nat.le_of_ble_eq_true rfl) (Nat.le_of_ble_eq_true rfl) dX10_init_20 (fun u1 => ?_)
  show cJ E A _ ((q, .inr (9, [.ref q5, .null, .null, .null, .null, .null, .null, .null, .null])) :: (([] ++ sh_X8 g q5 u0) ++ sh_X6 g q16 u1)) 4 47 23 [(0, .ref q)] [.ref q16, .ref q]
  refine c_putF (ty := (.object "LongestMet$Stop")) B hi0 9 1 tyX10 tyX10_ok nmX10 rfl m_X10_init_inX10 (Nat.le_of_ble_eq_true rfl) m_X10_init_f19 rfl rfl (by decide +kernel) rfl rfl (Nat.le_of_ble_eq_true rfl) dX10_init_23 ?_
  show cJ E A _ ((q, .inr (9, [.ref q5, .ref q16, .null, .null, .null, .null, .null, .null, .null])) :: (([] ++ sh_X8 g q5 u0) ++ sh_X6 g q16 u1)) 4 47 26 [(0, .ref q)] []
  refine c_aload_n B 0 dX10_init_26 rfl rfl ?_
  refine c_new (fs := [.null, .null, .null, .int 0, .int 0]) B 2 5 tyX3 tyX3_ok rfl m_X10_init_inX3 m_X10_init_cl23 m_X10_init_inX3x m_X10_init_iX3 (fun j hj => by rcases (show j = 0 ∨ j = 1 ∨ j = 2 ∨ j = 3 ∨ j = 4 by omega) with rfl | rfl | rfl | rfl | rfl <;> rfl) (Nat.le_of_ble_eq_true rfl) (Nat.le_of_ble_eq_true rfl) dX10_init_27 (fun q27 => ?_)
  refine c_dup B rfl dX10_init_30 ?_
  refine c_callN (ws := ((q, .inr (9, [.ref q5, .ref q16, .null, .null, .null, .null, .null, .null, .null])) :: (([] ++ sh_X8 g q5 u0) ++ sh_X6 g q16 u1))) (sh := sh_X3 g) B k_X3_init gX10_init_X3_init_n25 rfl rfl rfl B.2.2.2.2.2.2.2.1 m_X10_init_iX3 m_X10_init_nX3 rfl (by decide +kernel) ⟨(Nat.le_of_ble_eq_true rfl), (Nat.le_of_ble_eq_true rfl)⟩ (Nat.le_of_ble_eq_true rfl) (Nat.le_of_ble_eq_true rfl) (Nat.le_of_ble_eq_true rfl) dX10_init_31 (fun u2 => ?_)
  show cJ E A _ ((q, .inr (9, [.ref q5, .ref q16, .null, .null, .null, .null, .null, .null, .null])) :: ((([] ++ sh_X8 g q5 u0) ++ sh_X6 g q16 u1) ++ sh_X3 g q27 u2)) 20 160 34 [(0, .ref q)] [.ref q27, .ref q]
  refine c_putF (ty := (.object "LongestMet$Holding")) B hi0 9 2 tyX10 tyX10_ok nmX10 rfl m_X10_init_inX10 (Nat.le_of_ble_eq_true rfl) m_X10_init_f26 rfl rfl (by decide +kernel) rfl rfl (Nat.le_of_ble_eq_true rfl) dX10_init_34 ?_
  show cJ E A _ ((q, .inr (9, [.ref q5, .ref q16, .ref q27, .null, .null, .null, .null, .null, .null])) :: ((([] ++ sh_X8 g q5 u0) ++ sh_X6 g q16 u1) ++ sh_X3 g q27 u2)) 20 160 37 [(0, .ref q)] []
  refine c_aload_n B 0 dX10_init_37 rfl rfl ?_
  refine c_new (fs := [.null, .null, .null, .int 0, .int 0, .int 0]) B 6 6 tyX7 tyX7_ok rfl m_X10_init_inX7 m_X10_init_cl30 m_X10_init_inX7x m_X10_init_iX7 (fun j hj => by rcases (show j = 0 ∨ j = 1 ∨ j = 2 ∨ j = 3 ∨ j = 4 ∨ j = 5 by omega) with rfl | rfl | rfl | rfl | rfl | rfl <;> rfl) (Nat.le_of_ble_eq_true rfl) (Nat.le_of_ble_eq_true rfl) dX10_init_38 (fun q38 => ?_)
  refine c_dup B rfl dX10_init_41 ?_
  refine c_callN (ws := ((q, .inr (9, [.ref q5, .ref q16, .ref q27, .null, .null, .null, .null, .null, .null])) :: ((([] ++ sh_X8 g q5 u0) ++ sh_X6 g q16 u1) ++ sh_X3 g q27 u2))) (sh := sh_X7 g) B k_X7_init gX10_init_X7_init_n32 rfl rfl rfl B.2.2.2.2.2.2.2.2.1 m_X10_init_iX7 m_X10_init_nX7 rfl (by decide +kernel) ⟨(Nat.le_of_ble_eq_true rfl), (Nat.le_of_ble_eq_true rfl)⟩ (Nat.le_of_ble_eq_true rfl) (Nat.le_of_ble_eq_true rfl) (Nat.le_of_ble_eq_true rfl) dX10_init_42 (fun u3 => ?_)
  show cJ E A _ ((q, .inr (9, [.ref q5, .ref q16, .ref q27, .null, .null, .null, .null, .null, .null])) :: (((([] ++ sh_X8 g q5 u0) ++ sh_X6 g q16 u1) ++ sh_X3 g q27 u2) ++ sh_X7 g q38 u3)) 24 286 45 [(0, .ref q)] [.ref q38, .ref q]
  refine c_putF (ty := (.object "LongestMet$Survey")) B hi0 9 3 tyX10 tyX10_ok nmX10 rfl m_X10_init_inX10 (Nat.le_of_ble_eq_true rfl) m_X10_init_f33 rfl rfl (by decide +kernel) rfl rfl (Nat.le_of_ble_eq_true rfl) dX10_init_45 ?_
  show cJ E A _ ((q, .inr (9, [.ref q5, .ref q16, .ref q27, .ref q38, .null, .null, .null, .null, .null])) :: (((([] ++ sh_X8 g q5 u0) ++ sh_X6 g q16 u1) ++ sh_X3 g q27 u2) ++ sh_X7 g q38 u3)) 24 286 48 [(0, .ref q)] []
  refine c_aload_n B 0 dX10_init_48 rfl rfl ?_
  refine c_new (fs := [.null]) B 1 1 tyX1 tyX1_ok rfl m_X10_init_inX1 m_X10_init_cl37 m_X10_init_inX1x m_X10_init_iX1 (fun j hj => by rcases (show j = 0 by omega) with rfl <;> rfl) (Nat.le_of_ble_eq_true rfl) (Nat.le_of_ble_eq_true rfl) dX10_init_49 (fun q49 => ?_)
  refine c_dup B rfl dX10_init_52 ?_
  refine c_callN (ws := ((q, .inr (9, [.ref q5, .ref q16, .ref q27, .ref q38, .null, .null, .null, .null, .null])) :: (((([] ++ sh_X8 g q5 u0) ++ sh_X6 g q16 u1) ++ sh_X3 g q27 u2) ++ sh_X7 g q38 u3))) (sh := sh_X1 g) B k_X1_init gX10_init_X1_init_n39 rfl rfl rfl B.2.2.2.2.2.2.2.2.2.1 m_X10_init_iX1 m_X10_init_nX1 rfl (by decide +kernel) ⟨(Nat.le_of_ble_eq_true rfl), (Nat.le_of_ble_eq_true rfl)⟩ (Nat.le_of_ble_eq_true rfl) (Nat.le_of_ble_eq_true rfl) (Nat.le_of_ble_eq_true rfl) dX10_init_53 (fun u4 => ?_)
  show cJ E A _ ((q, .inr (9, [.ref q5, .ref q16, .ref q27, .ref q38, .null, .null, .null, .null, .null])) :: ((((([] ++ sh_X8 g q5 u0) ++ sh_X6 g q16 u1) ++ sh_X3 g q27 u2) ++ sh_X7 g q38 u3) ++ sh_X1 g q49 u4)) 30 327 56 [(0, .ref q)] [.ref q49, .ref q]
  refine c_putF (ty := (.object "LongestMet$Country")) B hi0 9 4 tyX10 tyX10_ok nmX10 rfl m_X10_init_inX10 (Nat.le_of_ble_eq_true rfl) m_X10_init_f40 rfl rfl (by decide +kernel) rfl rfl (Nat.le_of_ble_eq_true rfl) dX10_init_56 ?_
  show cJ E A _ ((q, .inr (9, [.ref q5, .ref q16, .ref q27, .ref q38, .ref q49, .null, .null, .null, .null])) :: ((((([] ++ sh_X8 g q5 u0) ++ sh_X6 g q16 u1) ++ sh_X3 g q27 u2) ++ sh_X7 g q38 u3) ++ sh_X1 g q49 u4)) 30 327 59 [(0, .ref q)] []
  refine c_aload_n B 0 dX10_init_59 rfl rfl ?_
  refine c_new (fs := [.null, .null, .int 0]) B 8 3 tyX9 tyX9_ok rfl m_X10_init_inX9 m_X10_init_cl44 m_X10_init_inX9x m_X10_init_iX9 (fun j hj => by rcases (show j = 0 ∨ j = 1 ∨ j = 2 by omega) with rfl | rfl | rfl <;> rfl) (Nat.le_of_ble_eq_true rfl) (Nat.le_of_ble_eq_true rfl) dX10_init_60 (fun q60 => ?_)
  refine c_dup B rfl dX10_init_63 ?_
  refine c_callN (ws := ((q, .inr (9, [.ref q5, .ref q16, .ref q27, .ref q38, .ref q49, .null, .null, .null, .null])) :: ((((([] ++ sh_X8 g q5 u0) ++ sh_X6 g q16 u1) ++ sh_X3 g q27 u2) ++ sh_X7 g q38 u3) ++ sh_X1 g q49 u4))) (sh := sh_X9 g) B k_X9_init gX10_init_X9_init_n46 rfl rfl rfl B.2.2.2.2.2.2.2.2.2.2.1 m_X10_init_iX9 m_X10_init_nX9 rfl (by decide +kernel) ⟨(Nat.le_of_ble_eq_true rfl), (Nat.le_of_ble_eq_true rfl)⟩ (Nat.le_of_ble_eq_true rfl) (Nat.le_of_ble_eq_true rfl) (Nat.le_of_ble_eq_true rfl) dX10_init_64 (fun u5 => ?_)
  show cJ E A _ ((q, .inr (9, [.ref q5, .ref q16, .ref q27, .ref q38, .ref q49, .null, .null, .null, .null])) :: (((((([] ++ sh_X8 g q5 u0) ++ sh_X6 g q16 u1) ++ sh_X3 g q27 u2) ++ sh_X7 g q38 u3) ++ sh_X1 g q49 u4) ++ sh_X9 g q60 u5)) 33 378 67 [(0, .ref q)] [.ref q60, .ref q]
  refine c_putF (ty := (.object "LongestMet$Ward")) B hi0 9 5 tyX10 tyX10_ok nmX10 rfl m_X10_init_inX10 (Nat.le_of_ble_eq_true rfl) m_X10_init_f47 rfl rfl (by decide +kernel) rfl rfl (Nat.le_of_ble_eq_true rfl) dX10_init_67 ?_
  show cJ E A _ ((q, .inr (9, [.ref q5, .ref q16, .ref q27, .ref q38, .ref q49, .ref q60, .null, .null, .null])) :: (((((([] ++ sh_X8 g q5 u0) ++ sh_X6 g q16 u1) ++ sh_X3 g q27 u2) ++ sh_X7 g q38 u3) ++ sh_X1 g q49 u4) ++ sh_X9 g q60 u5)) 33 378 70 [(0, .ref q)] []
  refine c_aload_n B 0 dX10_init_70 rfl rfl ?_
  refine c_new (fs := [.null]) B 0 1 tyX0 tyX0_ok rfl m_X10_init_inX0 m_X10_init_cl51 m_X10_init_inX0x m_X10_init_iX0 (fun j hj => by rcases (show j = 0 by omega) with rfl <;> rfl) (Nat.le_of_ble_eq_true rfl) (Nat.le_of_ble_eq_true rfl) dX10_init_71 (fun q71 => ?_)
  refine c_dup B rfl dX10_init_74 ?_
  refine c_callN (ws := ((q, .inr (9, [.ref q5, .ref q16, .ref q27, .ref q38, .ref q49, .ref q60, .null, .null, .null])) :: (((((([] ++ sh_X8 g q5 u0) ++ sh_X6 g q16 u1) ++ sh_X3 g q27 u2) ++ sh_X7 g q38 u3) ++ sh_X1 g q49 u4) ++ sh_X9 g q60 u5))) (sh := sh_X0 g) B k_X0_init gX10_init_X0_init_n53 rfl rfl rfl B.2.2.2.2.2.2.2.2.2.2.2.1 m_X10_init_iX0 m_X10_init_nX0 rfl (by decide +kernel) ⟨(Nat.le_of_ble_eq_true rfl), (Nat.le_of_ble_eq_true rfl)⟩ (Nat.le_of_ble_eq_true rfl) (Nat.le_of_ble_eq_true rfl) (Nat.le_of_ble_eq_true rfl) dX10_init_75 (fun u6 => ?_)
  show cJ E A _ ((q, .inr (9, [.ref q5, .ref q16, .ref q27, .ref q38, .ref q49, .ref q60, .null, .null, .null])) :: ((((((([] ++ sh_X8 g q5 u0) ++ sh_X6 g q16 u1) ++ sh_X3 g q27 u2) ++ sh_X7 g q38 u3) ++ sh_X1 g q49 u4) ++ sh_X9 g q60 u5) ++ sh_X0 g q71 u6)) 35 387 78 [(0, .ref q)] [.ref q71, .ref q]
  refine c_putF (ty := (.object "LongestMet$Circle")) B hi0 9 6 tyX10 tyX10_ok nmX10 rfl m_X10_init_inX10 (Nat.le_of_ble_eq_true rfl) m_X10_init_f54 rfl rfl (by decide +kernel) rfl rfl (Nat.le_of_ble_eq_true rfl) dX10_init_78 ?_
  show cJ E A _ ((q, .inr (9, [.ref q5, .ref q16, .ref q27, .ref q38, .ref q49, .ref q60, .ref q71, .null, .null])) :: ((((((([] ++ sh_X8 g q5 u0) ++ sh_X6 g q16 u1) ++ sh_X3 g q27 u2) ++ sh_X7 g q38 u3) ++ sh_X1 g q49 u4) ++ sh_X9 g q60 u5) ++ sh_X0 g q71 u6)) 35 387 81 [(0, .ref q)] []
  refine c_aload_n B 0 dX10_init_81 rfl rfl ?_
  refine c_new (fs := [.null, .int 0]) B 3 2 tyX4 tyX4_ok rfl m_X10_init_inX4 m_X10_init_cl58 m_X10_init_inX4x m_X10_init_iX4 (fun j hj => by rcases (show j = 0 ∨ j = 1 by omega) with rfl | rfl <;> rfl) (Nat.le_of_ble_eq_true rfl) (Nat.le_of_ble_eq_true rfl) dX10_init_82 (fun q82 => ?_)
  refine c_dup B rfl dX10_init_85 ?_
  refine c_callN (ws := ((q, .inr (9, [.ref q5, .ref q16, .ref q27, .ref q38, .ref q49, .ref q60, .ref q71, .null, .null])) :: ((((((([] ++ sh_X8 g q5 u0) ++ sh_X6 g q16 u1) ++ sh_X3 g q27 u2) ++ sh_X7 g q38 u3) ++ sh_X1 g q49 u4) ++ sh_X9 g q60 u5) ++ sh_X0 g q71 u6))) (sh := sh_X4 g) B k_X4_init gX10_init_X4_init_n60 rfl rfl rfl B.2.2.2.2.2.2.2.2.2.2.2.2 m_X10_init_iX4 m_X10_init_nX4 rfl (by decide +kernel) ⟨(Nat.le_of_ble_eq_true rfl), (Nat.le_of_ble_eq_true rfl)⟩ (Nat.le_of_ble_eq_true rfl) (Nat.le_of_ble_eq_true rfl) (Nat.le_of_ble_eq_true rfl) dX10_init_86 (fun u7 => ?_)
  show cJ E A _ ((q, .inr (9, [.ref q5, .ref q16, .ref q27, .ref q38, .ref q49, .ref q60, .ref q71, .null, .null])) :: (((((((([] ++ sh_X8 g q5 u0) ++ sh_X6 g q16 u1) ++ sh_X3 g q27 u2) ++ sh_X7 g q38 u3) ++ sh_X1 g q49 u4) ++ sh_X9 g q60 u5) ++ sh_X0 g q71 u6) ++ sh_X4 g q82 u7)) 37 397 89 [(0, .ref q)] [.ref q82, .ref q]
  refine c_putF (ty := (.object "LongestMet$Rod")) B hi0 9 7 tyX10 tyX10_ok nmX10 rfl m_X10_init_inX10 (Nat.le_of_ble_eq_true rfl) m_X10_init_f61 rfl rfl (by decide +kernel) rfl rfl (Nat.le_of_ble_eq_true rfl) dX10_init_89 ?_
  show cJ E A _ ((q, .inr (9, [.ref q5, .ref q16, .ref q27, .ref q38, .ref q49, .ref q60, .ref q71, .ref q82, .null])) :: (((((((([] ++ sh_X8 g q5 u0) ++ sh_X6 g q16 u1) ++ sh_X3 g q27 u2) ++ sh_X7 g q38 u3) ++ sh_X1 g q49 u4) ++ sh_X9 g q60 u5) ++ sh_X0 g q71 u6) ++ sh_X4 g q82 u7)) 37 397 92 [(0, .ref q)] []
  refine c_aload_n B 0 dX10_init_92 rfl rfl ?_
  refine c_new (fs := [.null, .null, .null, .int 0]) B 4 4 tyX5 tyX5_ok rfl m_X10_init_inX5 m_X10_init_cl65 m_X10_init_inX5x m_X10_init_iX5 (fun j hj => by rcases (show j = 0 ∨ j = 1 ∨ j = 2 ∨ j = 3 by omega) with rfl | rfl | rfl | rfl <;> rfl) (Nat.le_of_ble_eq_true rfl) (Nat.le_of_ble_eq_true rfl) dX10_init_93 (fun q93 => ?_)
  refine c_dup B rfl dX10_init_96 ?_
  refine c_callI (ws := ((q, .inr (9, [.ref q5, .ref q16, .ref q27, .ref q38, .ref q49, .ref q60, .ref q71, .ref q82, .null])) :: (((((((([] ++ sh_X8 g q5 u0) ++ sh_X6 g q16 u1) ++ sh_X3 g q27 u2) ++ sh_X7 g q38 u3) ++ sh_X1 g q49 u4) ++ sh_X9 g q60 u5) ++ sh_X0 g q71 u6) ++ sh_X4 g q82 u7))) (sh := sh_X5 g) B k_X5_init gX10_init_X5_init rfl rfl rfl m_X10_init_lX5 m_X10_init_iX5 m_X10_init_nX5 rfl (by decide +kernel) ⟨(Nat.le_of_ble_eq_true rfl), (Nat.le_of_ble_eq_true rfl)⟩ (Nat.le_of_ble_eq_true rfl) (Nat.le_of_ble_eq_true rfl) (Nat.le_of_ble_eq_true rfl) dX10_init_97 (fun u8 => ?_)
  show cJ E A _ ((q, .inr (9, [.ref q5, .ref q16, .ref q27, .ref q38, .ref q49, .ref q60, .ref q71, .ref q82, .null])) :: ((((((((([] ++ sh_X8 g q5 u0) ++ sh_X6 g q16 u1) ++ sh_X3 g q27 u2) ++ sh_X7 g q38 u3) ++ sh_X1 g q49 u4) ++ sh_X9 g q60 u5) ++ sh_X0 g q71 u6) ++ sh_X4 g q82 u7) ++ sh_X5 g q93 u8)) 45 653 100 [(0, .ref q)] [.ref q93, .ref q]
  refine c_putF (ty := (.object "LongestMet$Sheets")) B hi0 9 8 tyX10 tyX10_ok nmX10 rfl m_X10_init_inX10 (Nat.le_of_ble_eq_true rfl) m_X10_init_f68 rfl rfl (by decide +kernel) rfl rfl (Nat.le_of_ble_eq_true rfl) dX10_init_100 ?_
  show cJ E A _ ((q, .inr (9, [.ref q5, .ref q16, .ref q27, .ref q38, .ref q49, .ref q60, .ref q71, .ref q82, .ref q93])) :: ((((((((([] ++ sh_X8 g q5 u0) ++ sh_X6 g q16 u1) ++ sh_X3 g q27 u2) ++ sh_X7 g q38 u3) ++ sh_X1 g q49 u4) ++ sh_X9 g q60 u5) ++ sh_X0 g q71 u6) ++ sh_X4 g q82 u7) ++ sh_X5 g q93 u8)) 45 653 103 [(0, .ref q)] []
  exact c_vret B hi0 hD (fun k => [q5, q16, q27, q38, q49, q60, q71, q82, q93].getD k 0, fun k => [u0, u1, u2, u3, u4, u5, u6, u7, u8].getD k u0) hA hsz rfl (Nat.le_of_ble_eq_true rfl) (Nat.le_of_ble_eq_true rfl) dX10_init_103
