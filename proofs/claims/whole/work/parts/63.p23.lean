-- buses: a line's word, its ones, the waits
theorem bso {α : Type} (x : Option α) : x.bind (fun r => some r) = x := by cases x <;> rfl
theorem b60 {α : Type} (o : Option α) : nz 60 o = o := if_neg (by decide)
theorem b2o {α : Type} (o : Option α) : nz 2 o = o := if_neg (by decide)
theorem r60 {a : Nat} (h : a < 2 ^ 31) : nI a - nI a / 60 * 60 = nI (a % 60) := pk_rem (d := 60) h (by decide) (by decide)
theorem y_sh : ∀ m : Fin 64, (((nI m).toInt64.toUInt64 &&& Int64.toUInt64 63).toBitVec % 64).toNat = m := by decide +kernel
theorem bt_dm (W m : Nat) : W / 2 ^ m % 2 = bt W m := by
  unfold bt
  rw [Nat.testBit_eq_decide_div_mod_eq]
  have : W / 2 ^ m % 2 = 0 ∨ W / 2 ^ m % 2 = 1 := by omega
  rcases this with h | h <;> rw [h] <;> rfl
theorem e_in {W m : Nat} (hW : W < 2 ^ 60) (hm : m < 60) : F_X6_isIn (lN W) (nI m) = some (nI (bt W m)) := by
  unfold F_X6_isIn
  rw [lN_ushr (by omega) (nI m) m (y_sh ⟨m, by omega⟩), show (1 : Int64) = lN 1 from rfl, lN_and, Nat.and_one_is_mod, bt_dm]
  rcases bt_01 W m with h | h
  · rw [h, if_pos ((lN_eq0 (by decide)).mpr rfl)]; rfl
  · rw [h, if_neg (fun q => by have := (lN_eq0 (y := 1) (by decide)).mp q; omega)]; rfl
def gB (X M : zSt) (w W : Nat) : Prop := W < 2 ^ 60 ∧ F_X6_minutesOf X (nI w) = some (lN W) ∧ ∀ m, m < 60 → F_X11_isBus M (nI w) (nI m) = some (nI (bt W m))
theorem bt_or (a b j : Nat) : bt (a ||| b) j = max (bt a j) (bt b j) := by
  unfold bt
  rw [Nat.testBit_or]
  cases a.testBit j <;> cases b.testBit j <;> rfl
theorem e_gB {X M : zSt} (hR : rL X M) {w : Nat} (hw : w ≤ 2) : ∃ W, gB X M w W := by
  obtain ⟨u, hu, e1, q1⟩ := hR 0 (by omega)
  obtain ⟨v, hv, e2, q2⟩ := hR 1 (by omega)
  have a1 : ∀ m, m < 60 → zA M 3 m = nI (bt u m) := fun m hm => by
    have := q1 m hm
    rw [show 60 * 0 + m = m by omega] at this
    rw [this]; unfold bt; split <;> rfl
  have a2 : ∀ m, m < 60 → zA M 3 (60 + m) = nI (bt v m) := fun m hm => by
    have := q2 m hm
    rw [show 60 * 1 + m = 60 + m by omega] at this
    rw [this]; unfold bt; split <;> rfl
  have a3 : ∀ m, (60 : Int32) + nI m = nI (60 + m) := fun m => nI_add 60 m
  have c : w = 0 ∨ w = 1 ∨ w = 2 := by omega
  rcases c with rfl | rfl | rfl
  · refine ⟨u, hu, ?_, fun m hm => ?_⟩
    · unfold F_X6_minutesOf
      rw [if_neg (by decide), ibd_nI (by decide) (by decide), nIN (by decide), e1]
    · unfold F_X11_isBus
      simp only [jn]
      rw [if_neg (show ¬ nI 0 = (1 : Int32) by decide), ibd_nI (by omega) (by decide), nIN (by omega), a1 m hm, if_pos (show nI 0 = (0 : Int32) from rfl)]
      rcases bt_01 u m with h | h
      · rw [h, if_neg (by decide)]; rfl
      · rw [h, if_pos (by decide)]; rfl
  · refine ⟨v, hv, ?_, fun m hm => ?_⟩
    · unfold F_X6_minutesOf
      rw [if_neg (by decide), ibd_nI (by decide) (by decide), nIN (by decide), e2]
    · unfold F_X11_isBus
      simp only [jn]
      rw [if_pos (show nI 1 = (1 : Int32) from rfl), if_neg (show ¬ nI 1 = (0 : Int32) by decide), a3, ibd_nI (by omega) (by decide), nIN (by omega), a2 m hm]
      rcases bt_01 v m with h | h
      · rw [h, if_neg (by decide)]; rfl
      · rw [h, if_pos (by decide)]; rfl
  · refine ⟨u ||| v, Nat.or_lt_two_pow hu hv, ?_, fun m hm => ?_⟩
    · unfold F_X6_minutesOf
      rw [if_pos (show nI 2 = (2 : Int32) from rfl), show (0 : Int32) = nI 0 from rfl, show (1 : Int32) = nI 1 from rfl, ibd_nI (by decide) (by decide), ibd_nI (by decide) (by decide), nIN (by decide), nIN (by decide), e1, e2, lN_or]
    · unfold F_X11_isBus
      simp only [jn]
      rw [if_neg (show ¬ nI 2 = (1 : Int32) by decide), if_neg (show ¬ nI 2 = (0 : Int32) by decide), a3, ibd_nI (by omega) (by decide), nIN (by omega), ibd_nI (by omega) (by decide), nIN (by omega), a1 m hm, a2 m hm, bt_or]
      rcases bt_01 u m with h | h <;> rcases bt_01 v m with h' | h' <;> rw [h, h'] <;> rfl
theorem sN_60 {W : Nat} (hW : W < 2 ^ 60) : sN (bt W) 64 = sN (bt W) 60 := by
  have z : ∀ j, 60 ≤ j → bt W j = 0 := fun j hj => by
    unfold bt
    rw [Nat.testBit_lt_two_pow (Nat.lt_of_lt_of_le hW (Nat.pow_le_pow_right (by decide) hj))]
    rfl
  show sN (bt W) 60 + bt W 60 + bt W 61 + bt W 62 + bt W 63 = _
  rw [z 60 (by omega), z 61 (by omega), z 62 (by omega), z 63 (by omega)]
  simp only [Nat.add_zero]
theorem e_cX {X M : zSt} {w W : Nat} (g : gB X M w W) : F_X6_busesOf X (nI w) = some (nI (sN (bt W) 60)) := by
  unfold F_X6_busesOf
  rw [g.2.1, Option.bind_some, o_long (Nat.lt_trans g.1 (by decide)), sN_60 g.1]
  rfl
theorem e_cM {X M : zSt} {w W : Nat} (g : gB X M w W) : F_X11_many M (nI w) = some (nI (sN (bt W) 60)) := by
  refine (F_X11_many.eq_1 M (nI w)).trans ?_
  refine (lt_eq _ _).trans ?_
  refine (lt_eq _ _).trans ?_
  refine loopN (L := fun f (q : Int32 × Int32) => L_X11_many_4 M (nI w) (fun w => some w) f q.1 q.2) (st := fun i => (nI (sN (bt W) i), nI i)) 60 _ (fun f => ?_) (fun f i hi => ?_) 1000 0 (by omega) (by omega)
  · show L_X11_many_4 M (nI w) (fun w => some w) (f + 1) _ (nI 60) = _
    rw [L_X11_many_4, if_pos (by decide)]
  · show L_X11_many_4 M (nI w) (fun w => some w) (f + 1) (nI (sN (bt W) i)) (nI i) = L_X11_many_4 M (nI w) (fun w => some w) f (nI (sN (bt W) i + bt W i)) (nI (i + 1))
    rw [L_X11_many_4, if_neg (show ¬ (60 : Int32) ≤ nI i from nI_ge (b := 60) hi (by decide)), g.2.2 i hi, Option.bind_some]
    simp only [lt, nI_1]
    rcases bt_01 W i with e | e
    · rw [e, if_pos nI_0, show nI (sN (bt W) i) + 0 = nI (sN (bt W) i + 0) from nI_add _ 0]
    · rw [e, if_neg (by decide)]
theorem c_le (W : Nat) : sN (bt W) 60 ≤ 60 := by
  have := sN_le' (bt W) 1 60 (fun i _ => bt_le W i)
  omega
theorem c_ex {W : Nat} (h : sN (bt W) 60 ≠ 0) : ∃ j, j < 60 ∧ bt W j = 1 := by
  apply Classical.byContradiction
  intro q
  apply h
  have : sN (bt W) 60 ≤ 60 * 0 := sN_le' (bt W) 0 60 (fun i hi => by
    rcases bt_01 W i with e | e
    · omega
    · exact absurd ⟨i, hi, e⟩ q)
  omega
theorem c_pos {W j : Nat} (hj : j < 60) (h : bt W j = 1) : sN (bt W) 60 ≠ 0 := by
  have := sN_ge (g := bt W) 60 hj
  omega
-- the wait
def wk (W m : Nat) : Nat → Nat → Nat
  | 0, d => d
  | f + 1, d => if bt W ((m + d) % 60) = 1 then d else wk W m f (d + 1)
def wt (W m : Nat) : Nat := wk W m 60 0
theorem wk_ok (W m : Nat) : ∀ f d, d ≤ wk W m f d ∧ wk W m f d ≤ d + f ∧ (∀ e, d ≤ e → e < wk W m f d → bt W ((m + e) % 60) = 0) ∧ (wk W m f d = d + f ∨ bt W ((m + wk W m f d) % 60) = 1)
  | 0, d => ⟨Nat.le_refl _, Nat.le_refl _, fun e h1 h2 => absurd h2 (Nat.not_lt.mpr h1), Or.inl rfl⟩
  | f + 1, d => by
    unfold wk
    by_cases h : bt W ((m + d) % 60) = 1
    · rw [if_pos h]
      exact ⟨Nat.le_refl _, by omega, fun e h1 h2 => absurd h2 (Nat.not_lt.mpr h1), Or.inr h⟩
    · rw [if_neg h]
      obtain ⟨h1, h2, h3, h4⟩ := wk_ok W m f (d + 1)
      refine ⟨by omega, by omega, fun e h5 h6 => ?_, ?_⟩
      · by_cases h7 : e = d
        · rw [h7]
          rcases bt_01 W ((m + d) % 60) with q | q
          · exact q
          · exact absurd q h
        · exact h3 e (by omega) h6
      · rcases h4 with q | q
        · exact Or.inl (by omega)
        · exact Or.inr q
theorem wt_le (W m : Nat) : wt W m ≤ 60 := by
  have := (wk_ok W m 60 0).2.1
  unfold wt
  omega
theorem wt_z {W m e : Nat} (h : e < wt W m) : bt W ((m + e) % 60) = 0 := (wk_ok W m 60 0).2.2.1 e (Nat.zero_le _) h
theorem wt_o {W m : Nat} (h : wt W m < 60) : bt W ((m + wt W m) % 60) = 1 := by
  rcases (wk_ok W m 60 0).2.2.2 with q | q
  · unfold wt at h; omega
  · exact q
theorem wt_lt {W m : Nat} (hm : m < 60) (h : ∃ j, j < 60 ∧ bt W j = 1) : wt W m < 60 := by
  obtain ⟨j, hj, e⟩ := h
  apply Classical.byContradiction
  intro q
  have z := wt_z (W := W) (m := m) (e := (60 + j - m) % 60) (by omega)
  rw [show (m + (60 + j - m) % 60) % 60 = j by omega] at z
  omega
theorem wt_u {W m d : Nat} (h : wt W m < 60) (h1 : bt W ((m + d) % 60) = 1) (h0 : ∀ e, e < d → bt W ((m + e) % 60) = 0) : wt W m = d := by
  rcases Nat.lt_trichotomy (wt W m) d with q | q | q
  · have := h0 _ q
    have := wt_o h
    omega
  · exact q
  · have := wt_z q
    omega
theorem wt_bus {W m : Nat} (hm : m < 60) (h : bt W m = 1) : wt W m = 0 := wt_u (wt_lt hm ⟨m, hm, h⟩) (by rw [show (m + 0) % 60 = m by omega]; exact h) (fun e he => by omega)
theorem wt_non {W m : Nat} (hm : m < 60) (h : bt W m = 0) (hx : ∃ j, j < 60 ∧ bt W j = 1) : wt W m = 1 + wt W ((m + 1) % 60) := by
  have h2 := wt_lt (m := (m + 1) % 60) (by omega) hx
  refine wt_u (wt_lt hm hx) ?_ (fun e he => ?_)
  · have := wt_o h2
    rw [show ((m + 1) % 60 + wt W ((m + 1) % 60)) % 60 = (m + (1 + wt W ((m + 1) % 60))) % 60 by omega] at this
    exact this
  · by_cases h0 : e = 0
    · rw [h0, show (m + 0) % 60 = m by omega]
      exact h
    · have := wt_z (W := W) (m := (m + 1) % 60) (e := e - 1) (by omega)
      rw [show ((m + 1) % 60 + (e - 1)) % 60 = (m + e) % 60 by omega] at this
      exact this
theorem e_wX {X M : zSt} {w W : Nat} (g : gB X M w W) {m : Nat} (hm : m < 60) : F_X6_waitAt X (nI w) (nI m) = some (nI (wt W m)) := by
  refine (F_X6_waitAt.eq_1 X (nI w) (nI m)).trans ?_
  rw [g.2.1, Option.bind_some]
  refine (lt_eq _ _).trans ?_
  refine (lt_eq _ _).trans ?_
  have hl := wt_le W m
  refine loopN (L := fun f (q : Int32) => L_X6_waitAt_9 X (nI m) (lN W) (some 60) f q) (st := fun i => nI i) (wt W m) _ (fun f => ?_) (fun f i hi => ?_) 1000 0 (by omega) (by omega)
  · show L_X6_waitAt_9 X (nI m) (lN W) (some 60) (f + 1) (nI (wt W m)) = _
    rw [L_X6_waitAt_9]
    by_cases h : wt W m = 60
    · rw [h, if_pos (by decide)]; rfl
    · rw [if_neg (show ¬ (60 : Int32) ≤ nI _ from nI_ge (b := 60) (by omega) (by decide)), b60, nI_add, r60 (by omega), e_in g.1 (by omega), wt_o (by omega), Option.bind_some, if_neg (by decide)]
  · show L_X6_waitAt_9 X (nI m) (lN W) (some 60) (f + 1) (nI i) = L_X6_waitAt_9 X (nI m) (lN W) (some 60) f (nI (i + 1))
    rw [L_X6_waitAt_9, if_neg (show ¬ (60 : Int32) ≤ nI i from nI_ge (b := 60) (by omega) (by decide)), b60, nI_add, r60 (by omega), e_in g.1 (by omega), wt_z hi, Option.bind_some, if_pos nI_0]
    simp only [lt, nI_1]
theorem e_wM {X M : zSt} {w W : Nat} (g : gB X M w W) {m : Nat} (hm : m < 60) (hx : ∃ j, j < 60 ∧ bt W j = 1) : F_X11_waitOf M (nI w) (nI m) = some (nI (wt W m)) := by
  refine (F_X11_waitOf.eq_1 M (nI w) (nI m)).trans ?_
  refine (lt_eq _ _).trans ?_
  have hl := wt_lt hm hx
  refine loopN (L := fun f (q : Int32) => L_X11_waitOf_2 M (nI w) (nI m) (fun w => some w) f q) (st := fun i => nI i) (wt W m) _ (fun f => ?_) (fun f i hi => ?_) 1000 0 (by omega) (by omega)
  · show L_X11_waitOf_2 M (nI w) (nI m) (fun w => some w) (f + 1) (nI (wt W m)) = _
    rw [L_X11_waitOf_2, b60, nI_add, r60 (by omega), g.2.2 _ (by omega), wt_o hl, Option.bind_some, if_neg (by decide)]
  · show L_X11_waitOf_2 M (nI w) (nI m) (fun w => some w) (f + 1) (nI i) = L_X11_waitOf_2 M (nI w) (nI m) (fun w => some w) f (nI (i + 1))
    rw [L_X11_waitOf_2, b60, nI_add, r60 (by omega), g.2.2 _ (by omega), wt_z hi, Option.bind_some, if_pos nI_0]
    simp only [lt, nI_1]
theorem a_waits : ag_waits zR := by
  intro X M a1 a2 hR
  unfold F_X10_waits F_X11_waits
  rw [p_out, p_in]
  by_cases h : (0 : Int32) ≤ a1 ∧ a1 ≤ 2
  · obtain ⟨w, -, hw, rfl⟩ := rng 0 2 rfl rfl (by decide) (by decide) h
    rw [if_pos h, if_pos h, Option.bind_some, Option.bind_some, if_pos rfl, if_neg i01, p_out, p_in]
    by_cases h2 : (0 : Int32) ≤ a2 ∧ a2 ≤ 59
    · obtain ⟨m, -, hm, rfl⟩ := rng 0 59 rfl rfl (by decide) (by decide) h2
      obtain ⟨W, g⟩ := e_gB hR.2.1 hw
      rw [if_pos h2, if_pos h2, Option.bind_some, Option.bind_some, if_pos rfl, if_neg i01, e_cX g, e_cM g, Option.bind_some, Option.bind_some]
      have := c_le W
      by_cases h3 : sN (bt W) 60 = 0
      · rw [h3, if_pos nI_0, if_pos nI_0]
        exact ⟨_, rfl, rfl⟩
      · rw [if_neg (nI_ne0 (by omega) (by omega)), if_neg (nI_ne0 (by omega) (by omega)), e_wX g (by omega), e_wM g (by omega) (c_ex h3)]
        exact ⟨_, rfl, rfl⟩
    · rw [if_neg h2, if_neg h2, Option.bind_some, Option.bind_some, if_neg i01, if_pos rfl]
      exact ⟨_, rfl, rfl⟩
  · rw [if_neg h, if_neg h, Option.bind_some, Option.bind_some, if_neg i01, if_pos rfl]
    exact ⟨_, rfl, rfl⟩
def gp (W m : Nat) : Nat := 1 + wt W ((m + 1) % 60)
theorem gp_le (W m : Nat) : gp W m ≤ 61 := by
  have := wt_le W ((m + 1) % 60)
  unfold gp
  omega
theorem e_gX {X M : zSt} {w W : Nat} (g : gB X M w W) {m : Nat} (hm : m < 60) : F_X6_gapBehind X (nI w) (nI m) = some (nI (gp W m)) := by
  unfold F_X6_gapBehind
  rw [b60, nI_1, r60 (by omega), e_wX g (by omega), Option.bind_some]
  exact congrArg some (nI_add 1 _)
theorem e_gM {X M : zSt} {w W : Nat} (g : gB X M w W) {m : Nat} (hm : m < 60) (hx : ∃ j, j < 60 ∧ bt W j = 1) : F_X11_gapBehind M (nI w) (nI m) = some (nI (gp W m)) := by
  unfold F_X11_gapBehind
  rw [b60, nI_1, r60 (by omega), e_wM g (by omega) hx, Option.bind_some]
  exact congrArg some (nI_add 1 _)
