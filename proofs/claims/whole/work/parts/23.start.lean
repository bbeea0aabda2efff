def S0X : zSt := (fun k => if k = 6 then 999 else 0, fun _ => 0, fun k => if k = 25 then (upd (upd (upd (upd (fun _ => 0) 0 (-1)) 1 (-1)) 2 (-1)) 3 (-1)) else fun _ => 0, fun _ _ => 0)
def S0M : zSt := (fun k => if k = 4 then 999 else 0, fun _ => 0, fun _ _ => 0, fun _ _ => 0)
def posX (k : Nat) : Nat := [0, 1, 3, 5, 21, 25, 31, 34, 36, 38, 2, 4, 6, 7, 8, 22, 23, 24, 26, 32, 33, 35, 37, 39, 44, 45, 9, 10, 11, 12, 13, 14, 15, 16, 17, 18, 19, 20, 27, 28, 29, 30, 40, 41, 42, 43].getD k 0
def adX (q : Nat) (u : (Nat → Nat) × (Nat → cU)) (k : Nat) : Nat := if k < 26 then [q, u.1 0, u.1 1, u.1 2, u.1 3, u.1 4, u.1 5, u.1 6, u.1 7, u.1 8, (u.2 0).1 0, (u.2 1).1 0, (u.2 2).1 0, (u.2 2).1 1, (u.2 2).1 2, (u.2 3).1 0, (u.2 3).1 1, (u.2 3).1 2, (u.2 4).1 0, (u.2 5).1 0, (u.2 5).1 1, (u.2 6).1 0, (u.2 7).1 0, (u.2 8).1 0, (u.2 8).1 1, (u.2 8).1 2].getD k 0 else if k < 38 then (u.2 2).2 (k - 26) else if k < 42 then (u.2 4).2 (k - 38) else (u.2 8).2 (k - 42)
theorem posX_inj : ∀ i, i < 46 → ∀ j, j < 46 → posX i = posX j → i = j := by decide +kernel
theorem posX_lt : ∀ i, i < 46 → posX i < 46 := by decide +kernel
set_option maxRecDepth 100000 in
set_option maxHeartbeats 4000000 in
theorem sx_cell (g : zGx) (q : Nat) (u : (Nat → Nat) × (Nat → cU)) : ∀ k, k < 46 → k ≠ 14 ∧ k ≠ 18 ∧ k ≠ 23 → (sh_X10 g q u)[posX k]? = some (adX q u k, cX (adX q u, g.2) S0X k)
  | 0, _, _ => rfl
  | 1, _, _ => rfl
  | 2, _, _ => rfl
  | 3, _, _ => rfl
  | 4, _, _ => rfl
  | 5, _, _ => rfl
  | 6, _, _ => rfl
  | 7, _, _ => rfl
  | 8, _, _ => rfl
  | 9, _, _ => rfl
  | 10, _, _ => rfl
  | 11, _, _ => rfl
  | 12, _, _ => rfl
  | 13, _, _ => rfl
  | 14, _, h => absurd rfl (by first | exact h.1 | exact h.2.1 | exact h.2.2)
  | 15, _, _ => rfl
  | 16, _, _ => rfl
  | 17, _, _ => rfl
  | 18, _, h => absurd rfl (by first | exact h.1 | exact h.2.1 | exact h.2.2)
  | 19, _, _ => rfl
  | 20, _, _ => rfl
  | 21, _, _ => rfl
  | 22, _, _ => rfl
  | 23, _, h => absurd rfl (by first | exact h.1 | exact h.2.1 | exact h.2.2)
  | 24, _, _ => rfl
  | 25, _, _ => rfl
  | 26, _, _ => rfl
  | 27, _, _ => rfl
  | 28, _, _ => rfl
  | 29, _, _ => rfl
  | 30, _, _ => rfl
  | 31, _, _ => rfl
  | 32, _, _ => rfl
  | 33, _, _ => rfl
  | 34, _, _ => rfl
  | 35, _, _ => rfl
  | 36, _, _ => rfl
  | 37, _, _ => rfl
  | 38, _, _ => rfl
  | 39, _, _ => rfl
  | 40, _, _ => rfl
  | 41, _, _ => rfl
  | 42, _, _ => rfl
  | 43, _, _ => rfl
  | 44, _, _ => rfl
  | 45, _, _ => rfl
  | k + 46, h, _ => absurd h (by omega)
set_option maxRecDepth 100000 in
theorem sx_o14 (g : zGx) (q : Nat) (u : (Nat → Nat) × (Nat → cU)) : (sh_X10 g q u)[posX 14]? = some (adX q u 14, .inl (g.2.2.2.1, 12, .inr (.inr (.inr (.inr (fun z => some ((u.2 2).2 z))))))) := rfl
set_option maxRecDepth 100000 in
theorem sx_o18 (g : zGx) (q : Nat) (u : (Nat → Nat) × (Nat → cU)) : (sh_X10 g q u)[posX 18]? = some (adX q u 18, .inl (g.2.2.2.1, 4, .inr (.inr (.inr (.inr (fun z => some ((u.2 4).2 z))))))) := rfl
set_option maxRecDepth 100000 in
theorem sx_o23 (g : zGx) (q : Nat) (u : (Nat → Nat) × (Nat → cU)) : (sh_X10 g q u)[posX 23]? = some (adX q u 23, .inl (g.2.2.2.1, 4, .inr (.inr (.inr (.inr (fun z => some ((u.2 8).2 z))))))) := rfl
theorem sx_at (g : zGx) (q : Nat) (u : (Nat → Nat) × (Nat → cU)) (k : Nat) (h : k < 46) : ∃ e, (sh_X10 g q u)[posX k]? = some (adX q u k, e) := by
  by_cases h1 : k = 14
  · subst h1; exact ⟨_, sx_o14 g q u⟩
  by_cases h2 : k = 18
  · subst h2; exact ⟨_, sx_o18 g q u⟩
  by_cases h3 : k = 23
  · subst h3; exact ⟨_, sx_o23 g q u⟩
  exact ⟨_, sx_cell g q u k h ⟨h1, h2, h3⟩⟩
theorem zOuter {D : va_G} {a n : Nat} {cO : ClassId} {f f' : Nat → Option Nat} {H : Heap} (h : va_at D vwCl (a, .inl (cO, n, .inr (.inr (.inr (.inr f))))) H) (e : ∀ z, z < n → f z = f' z) : va_at D vwCl (a, .inl (cO, n, .inr (.inr (.inr (.inr f'))))) H := by
  refine Eq.trans h (congrArg some ?_)
  rw [vp_cell_q, vp_cell_q]
  show ({ cls := cO, slots := Array.ofFn (n := n) _, vm := .none } : Cell) = { cls := cO, slots := Array.ofFn (n := n) _, vm := .none }
  congr 2
  funext j
  show va_rf (f j.1) = va_rf (f' j.1)
  rw [e j.1 j.2]
theorem adX_26 (q : Nat) (u : (Nat → Nat) × (Nat → cU)) (z : Nat) (h : z < 12) : adX q u (26 + z) = (u.2 2).2 z := by
  unfold adX
  rw [if_neg (by omega), if_pos (by omega), show 26 + z - 26 = z by omega]
theorem adX_38 (q : Nat) (u : (Nat → Nat) × (Nat → cU)) (z : Nat) (h : z < 4) : adX q u (38 + z) = (u.2 4).2 z := by
  unfold adX
  rw [if_neg (by omega), if_neg (by omega), if_pos (by omega), show 38 + z - 38 = z by omega]
theorem adX_42 (q : Nat) (u : (Nat → Nat) × (Nat → cU)) (z : Nat) (h : z < 4) : adX q u (42 + z) = (u.2 8).2 z := by
  unfold adX
  rw [if_neg (by omega), if_neg (by omega), if_neg (by omega), show 42 + z - 42 = z by omega]
theorem sx_P {D : va_G} {g : zGx} {q : Nat} {u : (Nat → Nat) × (Nat → cU)} {H : Heap} (hP : va_P D vwCl (sh_X10 g q u) H) : va_P D vwCl (zws (WX (adX q u, g.2)) S0X) H := by
  intro k x hk
  obtain ⟨h, rfl⟩ := zws_at hk
  by_cases h1 : k = 14
  · subst h1
    exact zOuter (hP _ _ (sx_o14 g q u)) (fun z hz => by rw [← adX_26 q u z hz])
  by_cases h2 : k = 18
  · subst h2
    exact zOuter (hP _ _ (sx_o18 g q u)) (fun z hz => by rw [← adX_38 q u z hz])
  by_cases h3 : k = 23
  · subst h3
    exact zOuter (hP _ _ (sx_o23 g q u)) (fun z hz => by rw [← adX_42 q u z hz])
  exact hP _ _ (sx_cell g q u k h ⟨h1, h2, h3⟩)
def adM (q : Nat) (u : cU) (k : Nat) : Nat := match k with | 0 => q | k + 1 => u.1 k
set_option maxRecDepth 100000 in
theorem sm_cell (g : zGx) (q : Nat) (u : cU) : ∀ k, k < 20 → (sh_X11 g q u)[k]? = some (adM q u k, cM (adM q u, g.2) S0M k)
  | 0, _ => rfl
  | 1, _ => rfl
  | 2, _ => rfl
  | 3, _ => rfl
  | 4, _ => rfl
  | 5, _ => rfl
  | 6, _ => rfl
  | 7, _ => rfl
  | 8, _ => rfl
  | 9, _ => rfl
  | 10, _ => rfl
  | 11, _ => rfl
  | 12, _ => rfl
  | 13, _ => rfl
  | 14, _ => rfl
  | 15, _ => rfl
  | 16, _ => rfl
  | 17, _ => rfl
  | 18, _ => rfl
  | 19, _ => rfl
  | k + 20, h => absurd h (by omega)
theorem sm_P {D : va_G} {g : zGx} {q : Nat} {u : cU} {H : Heap} (hP : va_P D vwCl (sh_X11 g q u) H) : va_P D vwCl (zws (WM (adM q u, g.2)) S0M) H := by
  intro k x hk
  obtain ⟨h, rfl⟩ := zws_at hk
  exact hP _ _ (sm_cell g q u k h)
theorem sx_len (g : zGx) (q : Nat) (u : (Nat → Nat) × (Nat → cU)) : (sh_X10 g q u).length = 46 := rfl
set_option maxRecDepth 100000 in
theorem gu_X0 : GoodIn lw_tbl (u_ws RX0 TX0 1) := goodIn_r _ [191] (by decide +kernel) (by decide +kernel)
set_option maxRecDepth 100000 in
theorem gu_X1 : GoodIn lw_tbl (u_ws RX1 TX1 1) := goodIn_r _ [165] (by decide +kernel) (by decide +kernel)
set_option maxRecDepth 100000 in
theorem gu_X3 : GoodIn lw_tbl (u_ws RX3 TX3 5) := goodIn_r _ [121, 123, 125, 127, 129] (by decide +kernel) (by decide +kernel)
set_option maxRecDepth 100000 in
theorem gu_X4 : GoodIn lw_tbl (u_ws RX4 TX4 2) := goodIn_r _ [202, 204] (by decide +kernel) (by decide +kernel)
set_option maxRecDepth 100000 in
theorem gu_X5 : GoodIn lw_tbl (u_ws RX5 TX5 4) := goodIn_r _ [218, 220, 222, 224] (by decide +kernel) (by decide +kernel)
set_option maxRecDepth 100000 in
theorem gu_X6 : GoodIn lw_tbl (u_ws RX6 TX6 1) := goodIn_r _ [104] (by decide +kernel) (by decide +kernel)
set_option maxRecDepth 100000 in
theorem gu_X7 : GoodIn lw_tbl (u_ws RX7 TX7 6) := goodIn_r _ [144, 146, 148, 150, 152, 154] (by decide +kernel) (by decide +kernel)
set_option maxRecDepth 100000 in
theorem gu_X8 : GoodIn lw_tbl (u_ws RX8 TX8 4) := goodIn_r _ [87, 89, 91, 93] (by decide +kernel) (by decide +kernel)
set_option maxRecDepth 100000 in
theorem gu_X9 : GoodIn lw_tbl (u_ws RX9 TX9 3) := goodIn_r _ [177, 179, 181] (by decide +kernel) (by decide +kernel)
set_option maxRecDepth 100000 in
theorem gu_X10 : GoodIn lw_tbl (u_ws RX10 TX10 9) := goodIn_r _ [236, 238, 240, 242, 244, 246, 248, 250, 252] (by decide +kernel) (by decide +kernel)
set_option maxRecDepth 100000 in
theorem gu_X11 : GoodIn lw_tbl (u_ws RX11 TX11 27) := goodIn_r _ [902, 904, 906, 908, 910, 912, 914, 916, 918, 920, 922, 924, 926, 928, 930, 932, 934, 936, 938, 940, 942, 944, 946, 948, 950, 952, 954] (by decide +kernel) (by decide +kernel)
set_option maxRecDepth 100000 in
set_option maxHeartbeats 4000000 in
theorem y_start {R : zSt → zSt → Prop} (hag : yAg R) (hR0 : R S0X S0M) {p : Program} {e : Env} {s : State} {m : MethodId} {below : List Frame} {meth : Method} {c : Code} (l : Launch) {b L : Nat} {xs : Nat → Int32} (hL : L ≤ 3072) (C0 : lw_At p s m meth c b L xs) : W p l e room_1 s m #[Value.ref b] below meth c s.heap [] 0 0 (lw_Z below #[Value.ref b] s) (entryFrame m ([Value.ref b] : List Value).toArray 4) := by
  obtain ⟨hx, hb, hr, hml, hown, hts, hX, hbl, hlocks, hgv⟩ := C0
  obtain ⟨c0, iS0, hKn0⟩ := u_known (C := RX0) (T := TX0) (N := 1) (n := 1) hts (fun w h => (gu_X0 w h).1) (hts (.instantiable RX0 1) (List.mem_of_getElem? (i := 185) (by decide +kernel)))
  obtain ⟨c1, iS1, hKn1⟩ := u_known (C := RX1) (T := TX1) (N := 1) (n := 1) hts (fun w h => (gu_X1 w h).1) (hts (.instantiable RX1 1) (List.mem_of_getElem? (i := 158) (by decide +kernel)))
  obtain ⟨c2, iS2, hKn2⟩ := u_known (C := RX3) (T := TX3) (N := 5) (n := 5) hts (fun w h => (gu_X3 w h).1) (hts (.instantiable RX3 5) (List.mem_of_getElem? (i := 109) (by decide +kernel)))
  obtain ⟨c3, iS3, hKn3⟩ := u_known (C := RX4) (T := TX4) (N := 2) (n := 2) hts (fun w h => (gu_X4 w h).1) (hts (.instantiable RX4 2) (List.mem_of_getElem? (i := 195) (by decide +kernel)))
  obtain ⟨c4, iS4, hKn4⟩ := u_known (C := RX5) (T := TX5) (N := 4) (n := 4) hts (fun w h => (gu_X5 w h).1) (hts (.instantiable RX5 4) (List.mem_of_getElem? (i := 208) (by decide +kernel)))
  obtain ⟨c5, iS5, hKn5⟩ := u_known (C := RX6) (T := TX6) (N := 1) (n := 1) hts (fun w h => (gu_X6 w h).1) (hts (.instantiable RX6 1) (List.mem_of_getElem? (i := 98) (by decide +kernel)))
  obtain ⟨c6, iS6, hKn6⟩ := u_known (C := RX7) (T := TX7) (N := 6) (n := 6) hts (fun w h => (gu_X7 w h).1) (hts (.instantiable RX7 6) (List.mem_of_getElem? (i := 133) (by decide +kernel)))
  obtain ⟨c7, iS7, hKn7⟩ := u_known (C := RX8) (T := TX8) (N := 4) (n := 4) hts (fun w h => (gu_X8 w h).1) (hts (.instantiable RX8 4) (List.mem_of_getElem? (i := 78) (by decide +kernel)))
  obtain ⟨c8, iS8, hKn8⟩ := u_known (C := RX9) (T := TX9) (N := 3) (n := 3) hts (fun w h => (gu_X9 w h).1) (hts (.instantiable RX9 3) (List.mem_of_getElem? (i := 169) (by decide +kernel)))
  obtain ⟨c9, iS9, hKn9⟩ := u_known (C := RX10) (T := TX10) (N := 9) (n := 9) hts (fun w h => (gu_X10 w h).1) (hts (.instantiable RX10 9) (List.mem_of_getElem? (i := 70) (by decide +kernel)))
  obtain ⟨c10, iS10, hKn10⟩ := u_known (C := RX11) (T := TX11) (N := 27) (n := 27) hts (fun w h => (gu_X11 w h).1) (hts (.instantiable RX11 27) (List.mem_of_getElem? (i := 870) (by decide +kernel)))
  obtain ⟨dC, dI, hKc⟩ : ∃ (dC : Nat → ClassId) (dI : Nat → Nat → Nat), ∀ (k : Nat) (q : vw_C), vwCl[k]? = some q → u_Kn s q.1 q.2.1 q.2.2 (dC k) (dI k) := by
    refine ⟨fun k => [c0, c1, c2, c3, c4, c5, c6, c7, c8, c9, c10].getD k c0, fun k => [iS0, iS1, iS2, iS3, iS4, iS5, iS6, iS7, iS8, iS9, iS10].getD k iS0, ?_⟩
    intro k q hq
    match k, hq with
    | 0, hq => cases hq; exact hKn0
    | 1, hq => cases hq; exact hKn1
    | 2, hq => cases hq; exact hKn2
    | 3, hq => cases hq; exact hKn3
    | 4, hq => cases hq; exact hKn4
    | 5, hq => cases hq; exact hKn5
    | 6, hq => cases hq; exact hKn6
    | 7, hq => cases hq; exact hKn7
    | 8, hq => cases hq; exact hKn8
    | 9, hq => cases hq; exact hKn9
    | 10, hq => cases hq; exact hKn10
    | k + 11, hq => simp [vwCl] at hq
  obtain ⟨cI, kI, coI, fI1, fI2, fI3⟩ := Cond.arrayClass_spec (hts (.arrayClass .int) (List.mem_of_getElem? (i := 96) (by decide +kernel)))
  obtain ⟨cJ', kJ, coJ, fJ1, fJ2, fJ3⟩ := Cond.arrayClass_spec (hts (.arrayClass .long) (List.mem_of_getElem? (i := 107) (by decide +kernel)))
  obtain ⟨cZ, kZ, coZ, fZ1, fZ2, fZ3⟩ := Cond.arrayClass_spec (hts (.arrayClass .boolean) (List.mem_of_getElem? (i := 957) (by decide +kernel)))
  have hO : va_AOA .int s := va_AOA.of (hts (.arrayOver (.array .int)) (List.mem_of_getElem? (i := 115) (by decide +kernel)))
  obtain ⟨coO, cO, kO, -, -, fO2, fO3, fO1⟩ := zAOspec hO
  let g0 : zGx := (fun _ => 0, cI, cJ', cO, cZ)
  have hK : va_K (dC, dI) vwCl (zT g0) s := ⟨hKc, fun k q h => by
    match k, h with
    | 0, h => cases h; exact ⟨fun n z => ⟨fun k h => (by cases h), kI, fI2, coI, fI3⟩, fI1⟩
    | 1, h => cases h; exact ⟨fun n z => ⟨fun k h => (by cases h), kJ, fJ2, coJ, fJ3⟩, fJ1⟩
    | 2, h => cases h; exact ⟨fun n z => ⟨fun k h => (by cases h), kO, fO2, coO, fO3⟩, fO1⟩
    | 3, h => cases h; exact ⟨fun n z => ⟨fun k h => (by cases h), kZ, fZ2, coZ, fZ3⟩, fZ1⟩
    | k + 4, h => simp [zT] at h⟩
  have hNs : zNs s := ⟨va_Nw.of rfl (hts (.methodLinkNest RX8 36 yX10_outside RX10) (List.mem_of_getElem? (i := 294) (by decide +kernel))), va_Nw.of rfl (hts (.methodLinkNest RX7 31 yX10_outside RX10) (List.mem_of_getElem? (i := 424) (by decide +kernel))), va_Nw.of rfl (hts (.methodLinkNest RX5 31 yX10_outside RX10) (List.mem_of_getElem? (i := 802) (by decide +kernel)))⟩
  have hN8 : zN8 s := ⟨va_Nw.of rfl (hts (.methodLinkNest RX10 9 yX8_init RX10) (List.mem_of_getElem? (i := 79) (by decide +kernel))), va_Nw.of rfl (hts (.methodLinkNest RX10 18 yX6_init RX10) (List.mem_of_getElem? (i := 99) (by decide +kernel))), va_Nw.of rfl (hts (.methodLinkNest RX10 25 yX3_init RX10) (List.mem_of_getElem? (i := 110) (by decide +kernel))), va_Nw.of rfl (hts (.methodLinkNest RX10 32 yX7_init RX10) (List.mem_of_getElem? (i := 134) (by decide +kernel))), va_Nw.of rfl (hts (.methodLinkNest RX10 39 yX1_init RX10) (List.mem_of_getElem? (i := 159) (by decide +kernel))), va_Nw.of rfl (hts (.methodLinkNest RX10 46 yX9_init RX10) (List.mem_of_getElem? (i := 170) (by decide +kernel))), va_Nw.of rfl (hts (.methodLinkNest RX10 53 yX0_init RX10) (List.mem_of_getElem? (i := 186) (by decide +kernel))), va_Nw.of rfl (hts (.methodLinkNest RX10 60 yX4_init RX10) (List.mem_of_getElem? (i := 196) (by decide +kernel)))⟩
  have hl := lv_entry ([.ref b]) (n := 4) (Nat.le_of_ble_eq_true rfl)
  rw [lg_entry_eq]
  generalize (lg_sl ([.ref b]) ++ List.replicate (4 - (lg_sl ([.ref b])).length) Slot.unset).toArray = ls at hl ⊢
  let E : zCx := ((p, l, e, room_1, s, m, #[Value.ref b], below, meth, c), (dC, dI), 4)
  let A : Nat → Prop := fun q => s.heap.size ≤ q
  have B : cGood E A (zT g0) code RL lw_tbl room_1 := ⟨⟨hx, hb, hml, hown, hts⟩, hK, fun _ h => h, rfl, hO, hN8⟩
  have go : cJ E A (lw_Z below #[Value.ref b] s) [] 0 0 0 [(0, .ref b)] [] := ?_
  · exact go s.heap [] ls (fun k q h => by simp at h) ⟨fun i j p q h => by simp at h, fun k q h => by simp at h⟩ va_S.rf hl
  refine c_new (ws := []) (fs := [.null, .null, .null, .null, .null, .null, .null, .null, .null]) B 9 9 tyX10 tyX10_ok rfl (fun w h => (gu_X10 w h).1) (List.mem_of_getElem? (i := 69) (by decide +kernel)) (List.mem_of_getElem? (i := 70) (by decide +kernel)) (List.mem_of_getElem? (i := 53) (by decide +kernel)) (fun j hj => by rcases (show j = 0 ∨ j = 1 ∨ j = 2 ∨ j = 3 ∨ j = 4 ∨ j = 5 ∨ j = 6 ∨ j = 7 ∨ j = 8 by omega) with rfl | rfl | rfl | rfl | rfl | rfl | rfl | rfl | rfl <;> rfl) (Nat.le_of_ble_eq_true rfl) (Nat.le_of_ble_eq_true rfl) dL_law_0 (fun q0 => ?_)
  refine c_dup B rfl dL_law_3 ?_
  refine c_callI (ws := []) (sh := sh_X10 g0) B k_X10_init gl_X10_init rfl rfl rfl (List.mem_of_getElem? (i := 71) (by decide +kernel)) (List.mem_of_getElem? (i := 53) (by decide +kernel)) (List.mem_of_getElem? (i := 72) (by decide +kernel)) rfl (by decide +kernel) ⟨(Nat.le_of_ble_eq_true rfl), (Nat.le_of_ble_eq_true rfl)⟩ (Nat.le_of_ble_eq_true rfl) (Nat.le_of_ble_eq_true rfl) (Nat.le_of_ble_eq_true rfl) dL_law_4 (fun u0 => ?_)
  refine c_astore_n (lv' := [(1, .ref q0), (0, .ref b)]) B dL_law_7 rfl (Nat.le_of_ble_eq_true rfl) rfl ?_
  refine c_new (ws := ([] ++ sh_X10 g0 q0 u0)) (fs := [.int 0, .null, .null, .null, .int 0, .null, .null, .null, .int 0, .null, .null, .null, .int 0, .int 0, .null, .int 0, .null, .null, .null, .int 0, .null, .null, .null, .null, .null, .null, .int 0]) B 10 27 tyX11 tyX11_ok rfl (fun w h => (gu_X11 w h).1) (List.mem_of_getElem? (i := 869) (by decide +kernel)) (List.mem_of_getElem? (i := 870) (by decide +kernel)) (List.mem_of_getElem? (i := 63) (by decide +kernel)) (fun j hj => by rcases (show j = 0 ∨ j = 1 ∨ j = 2 ∨ j = 3 ∨ j = 4 ∨ j = 5 ∨ j = 6 ∨ j = 7 ∨ j = 8 ∨ j = 9 ∨ j = 10 ∨ j = 11 ∨ j = 12 ∨ j = 13 ∨ j = 14 ∨ j = 15 ∨ j = 16 ∨ j = 17 ∨ j = 18 ∨ j = 19 ∨ j = 20 ∨ j = 21 ∨ j = 22 ∨ j = 23 ∨ j = 24 ∨ j = 25 ∨ j = 26 by omega) with rfl | rfl | rfl | rfl | rfl | rfl | rfl | rfl | rfl | rfl | rfl | rfl | rfl | rfl | rfl | rfl | rfl | rfl | rfl | rfl | rfl | rfl | rfl | rfl | rfl | rfl | rfl <;> rfl) (Nat.le_of_ble_eq_true rfl) (Nat.le_of_ble_eq_true rfl) dL_law_8 (fun q1 => ?_)
  refine c_dup B rfl dL_law_11 ?_
  refine c_callI (ws := ([] ++ sh_X10 g0 q0 u0)) (sh := sh_X11 g0) B k_X11_init gl_X11_init rfl rfl rfl (List.mem_of_getElem? (i := 871) (by decide +kernel)) (List.mem_of_getElem? (i := 63) (by decide +kernel)) (List.mem_of_getElem? (i := 872) (by decide +kernel)) rfl (by decide +kernel) ⟨(Nat.le_of_ble_eq_true rfl), (Nat.le_of_ble_eq_true rfl)⟩ (Nat.le_of_ble_eq_true rfl) (Nat.le_of_ble_eq_true rfl) (Nat.le_of_ble_eq_true rfl) dL_law_12 (fun u1 => ?_)
  refine c_astore_n (lv' := [(2, .ref q1), (1, .ref q0), (0, .ref b)]) B dL_law_15 rfl (Nat.le_of_ble_eq_true rfl) rfl ?_
  refine c_iconst B 0 dL_law_16 (by decide) ?_
  refine c_istore_n (lv' := [(3, .int 0), (2, .ref q1), (1, .ref q0), (0, .ref b)]) B dL_law_17 rfl (Nat.le_of_ble_eq_true rfl) rfl ?_
  refine c_sub [3, 2, 1, 0] rfl ?_
  intro H locs ls hP hD hS hl
  have hP : va_P (dC, dI) vwCl (sh_X10 g0 q0 u0 ++ sh_X11 g0 q1 u1) H := hP
  have hD : va_D A (sh_X10 g0 q0 u0 ++ sh_X11 g0 q1 u1) := hD
  have atX : ∀ k, k < 46 → ∃ e, (sh_X10 g0 q0 u0 ++ sh_X11 g0 q1 u1)[posX k]? = some (adX q0 u0 k, e) := fun k hk => by
    obtain ⟨e, h⟩ := sx_at g0 q0 u0 k hk
    exact ⟨e, by rw [List.getElem?_append_left (List.getElem?_eq_some_iff.mp h).1]; exact h⟩
  have atM : ∀ k, k < 20 → ∃ e, (sh_X10 g0 q0 u0 ++ sh_X11 g0 q1 u1)[46 + k]? = some (adM q1 u1 k, e) := fun k hk => by
    refine ⟨cM (adM q1 u1, g0.2) S0M k, ?_⟩
    · rw [List.getElem?_append_right (by rw [sx_len]; omega), sx_len, show 46 + k - 46 = k by omega]
      exact sm_cell g0 q1 u1 k hk
  refine W.widen (k := 600000) (n := 7302250) (Nat.le_of_ble_eq_true rfl) (Nat.le_of_ble_eq_true rfl) ?_
  have Y : yAt (p, l, e, s, m, below, meth, c, b, (dC, dI), (adX q0 u0, g0.2), (adM q1 u1, g0.2)) L xs := by
    refine ⟨⟨hx, hb, hml, hown, hts⟩, hK, hNs, ?_, ?_, ?_, rfl, ?_, ?_, hX, hbl, hlocks, hr⟩
    · intro i j hi hj h
      obtain ⟨e1, h1⟩ := atX i hi
      obtain ⟨e2, h2⟩ := atX j hj
      exact posX_inj i hi j hj (hD.1 _ _ _ _ h1 h2 h)
    · intro i j hi hj h
      obtain ⟨e1, h1⟩ := atM i hi
      obtain ⟨e2, h2⟩ := atM j hj
      have := hD.1 _ _ _ _ h1 h2 h
      omega
    · intro i j hi hj h
      obtain ⟨e1, h1⟩ := atX i hi
      obtain ⟨e2, h2⟩ := atM j hj
      have := hD.1 _ _ _ _ h1 h2 h
      have := posX_lt i hi
      omega
    · intro i hi
      obtain ⟨e1, h1⟩ := atX i hi
      exact hD.2 _ _ h1
    · intro j hj
      obtain ⟨e1, h1⟩ := atM j hj
      exact hD.2 _ _ h1
  exact y_loop Y hL hag (L + 1) 0 0 S0X S0M (by omega) (by omega) nI_0.symm hR0 H locs ls ((sx_P (zPl hP)).app (sm_P (zPr hP))) hS hl
