-- met and gaps
def mt (W g m : Nat) : Nat := if bt W m = 1 then (if gp W m = g then g else 0) else 0
theorem e_mX {X M : zSt} {w W : Nat} (g : gB X M w W) {v : Nat} (hv : v ≤ 60) : F_X6_metBy X (nI w) (nI v) = some (nI (sN (mt W v) 60)) := by
  refine (F_X6_metBy.eq_1 X (nI w) (nI v)).trans ?_
  rw [g.2.1, Option.bind_some]
  refine (lt_eq _ _).trans ?_
  refine (lt_eq _ _).trans ?_
  refine (lt_eq _ _).trans ?_
  refine loopN (L := fun f (q : Int32 × Int32) => L_X6_metBy_12 X (nI w) (nI v) (lN W) (fun w => some w) f q.1 q.2) (st := fun i => (nI (sN (mt W v) i), nI i)) 60 _ (fun f => ?_) (fun f i hi => ?_) 1000 0 (by omega) (by omega)
  · show L_X6_metBy_12 X (nI w) (nI v) (lN W) (fun w => some w) (f + 1) _ (nI 60) = _
    rw [L_X6_metBy_12, if_pos (by decide)]
  · show L_X6_metBy_12 X (nI w) (nI v) (lN W) (fun w => some w) (f + 1) (nI (sN (mt W v) i)) (nI i) = L_X6_metBy_12 X (nI w) (nI v) (lN W) (fun w => some w) f (nI (sN (mt W v) i + mt W v i)) (nI (i + 1))
    rw [L_X6_metBy_12, if_neg (show ¬ (60 : Int32) ≤ nI i from nI_ge (b := 60) hi (by decide)), e_in g.1 hi, e_gX g hi, Option.bind_some, Option.bind_some]
    simp only [lt, nI_1]
    unfold mt
    have := gp_le W i
    rcases bt_01 W i with e | e
    · rw [e, if_pos nI_0, if_neg (by decide), Nat.add_zero (sN _ i)]
    · rw [e, if_neg (by decide), if_pos rfl]
      by_cases h : gp W i = v
      · rw [if_pos (by rw [h]), if_pos h, nI_add]
      · rw [if_neg (nI_ne h (by omega) (by omega)), if_neg h, Nat.add_zero (sN _ i)]
theorem e_mM {X M : zSt} {w W : Nat} (g : gB X M w W) {v : Nat} (hv : v ≤ 60) : L_X11_met_27 M (nI w) (nI v) (fun w => some w) 1000 0 0 = some (nI (sN (mt W v) 60)) := by
  refine loopN (L := fun f (q : Int32 × Int32) => L_X11_met_27 M (nI w) (nI v) (fun w => some w) f q.1 q.2) (st := fun i => (nI (sN (mt W v) i), nI i)) 60 _ (fun f => ?_) (fun f i hi => ?_) 1000 0 (by omega) (by omega)
  · show L_X11_met_27 M (nI w) (nI v) (fun w => some w) (f + 1) _ (nI 60) = _
    rw [L_X11_met_27, if_pos (by decide)]
  · show L_X11_met_27 M (nI w) (nI v) (fun w => some w) (f + 1) (nI (sN (mt W v) i)) (nI i) = L_X11_met_27 M (nI w) (nI v) (fun w => some w) f (nI (sN (mt W v) i + mt W v i)) (nI (i + 1))
    rw [L_X11_met_27, if_neg (show ¬ (60 : Int32) ≤ nI i from nI_ge (b := 60) hi (by decide)), g.2.2 i hi, Option.bind_some]
    simp only [lt, nI_1]
    unfold mt
    have := gp_le W i
    have z : nI (sN (fun m => if bt W m = 1 then (if gp W m = v then v else 0) else 0) i) + 0 = nI (sN (fun m => if bt W m = 1 then (if gp W m = v then v else 0) else 0) i + 0) := nI_add _ 0
    rcases bt_01 W i with e | e
    · rw [e, if_pos nI_0, if_neg (by decide), z]
    · rw [e, if_neg (by decide), if_pos rfl, e_gM g hi ⟨i, hi, e⟩, Option.bind_some]
      by_cases h : gp W i = v
      · rw [if_pos (by rw [h]), if_pos h, nI_add]
      · rw [if_neg (nI_ne h (by omega) (by omega)), if_neg h, z]
theorem a_met : ag_met zR := by
  intro X M a1 a2 hR
  unfold F_X10_met F_X11_met
  rw [p_out, p_in]
  by_cases h : (0 : Int32) ≤ a1 ∧ a1 ≤ 2
  · obtain ⟨w, -, hw, rfl⟩ := rng 0 2 rfl rfl (by decide) (by decide) h
    rw [if_pos h, if_pos h, Option.bind_some, Option.bind_some, if_pos rfl, if_neg i01, p_out, p_in]
    by_cases h2 : (1 : Int32) ≤ a2 ∧ a2 ≤ 60
    · obtain ⟨v, -, hv, rfl⟩ := rng 1 60 rfl rfl (by decide) (by decide) h2
      obtain ⟨W, g⟩ := e_gB hR.2.1 hw
      rw [if_pos h2, if_pos h2, Option.bind_some, Option.bind_some, if_pos rfl, if_neg i01, e_mX g hv]
      refine ⟨_, rfl, ?_⟩
      refine (lt_eq _ _).trans ?_
      refine (lt_eq _ _).trans ?_
      exact e_mM g hv
    · rw [if_neg h2, if_neg h2, Option.bind_some, Option.bind_some, if_neg i01, if_pos rfl]
      exact ⟨_, rfl, rfl⟩
  · rw [if_neg h, if_neg h, Option.bind_some, Option.bind_some, if_neg i01, if_pos rfl]
    exact ⟨_, rfl, rfl⟩
def tri (x : Nat) : Nat := x * (x - 1) / 2
theorem tri_s : ∀ x, tri (x + 1) = tri x + x
  | 0 => rfl
  | x + 1 => by
    unfold tri
    have : (x + 1 + 1) * (x + 1 + 1 - 1) = (x + 1) * (x + 1 - 1) + (x + 1) * 2 := by
      rw [Nat.add_sub_cancel, Nat.add_sub_cancel, Nat.mul_comm (x + 1 + 1), ← Nat.mul_add]
    rw [this, Nat.add_mul_div_right _ _ (by decide)]
theorem tri_le {x : Nat} (h : x ≤ 200) : tri x ≤ 19900 := by
  have : x * (x - 1) ≤ 200 * 199 := Nat.mul_le_mul h (by omega)
  unfold tri
  omega
theorem e_tri {x : Nat} (h1 : 1 ≤ x) (h : x ≤ 200) : nI x * (nI x - 1) / 2 = nI (tri x) := by
  have : x * (x - 1) ≤ 200 * 199 := Nat.mul_le_mul h (by omega)
  rw [show nI x - 1 = nI (x - 1) from pk_sub (b := 1) h1, pk_mul]
  exact pk_div (d := 2) (by omega) (by decide) (by decide)
def wg (k g : Nat) : Nat := if k = 0 then g else if k = 1 then g * g else tri g
theorem e_wg {k x : Nat} (hk : k ≤ 2) (h1 : 1 ≤ x) (h : x ≤ 61) : F_X6_weightOf (nI x) (nI k) = some (nI (wg k x)) := by
  unfold F_X6_weightOf wg F_X6_waitsIn
  have c : k = 0 ∨ k = 1 ∨ k = 2 := by omega
  rcases c with rfl | rfl | rfl
  · rw [if_pos nI_0, if_pos rfl]
  · rw [if_neg (by decide), if_pos (by rfl), if_neg (by decide), if_pos rfl, pk_mul]
  · rw [if_neg (by decide), if_neg (by decide), if_neg (by decide), if_neg (by decide), b2o, e_tri h1 (by omega)]
    rfl
theorem e_sX {X M : zSt} {w W : Nat} (g : gB X M w W) {k : Nat} (hk : k ≤ 2) : F_X6_sumOfGaps X (nI w) (nI k) = some (nI (sN (fun m => bt W m * wg k (gp W m)) 60)) := by
  refine (F_X6_sumOfGaps.eq_1 X (nI w) (nI k)).trans ?_
  rw [g.2.1, Option.bind_some]
  refine (lt_eq _ _).trans ?_
  refine (lt_eq _ _).trans ?_
  refine (lt_eq _ _).trans ?_
  refine loopN (L := fun f (q : Int32 × Int32) => L_X6_sumOfGaps_12 X (nI w) (nI k) (lN W) (fun w => some w) f q.1 q.2) (st := fun i => (nI (sN (fun m => bt W m * wg k (gp W m)) i), nI i)) 60 _ (fun f => ?_) (fun f i hi => ?_) 1000 0 (by omega) (by omega)
  · show L_X6_sumOfGaps_12 X (nI w) (nI k) (lN W) (fun w => some w) (f + 1) _ (nI 60) = _
    rw [L_X6_sumOfGaps_12, if_pos (by decide)]
  · show L_X6_sumOfGaps_12 X (nI w) (nI k) (lN W) (fun w => some w) (f + 1) (nI (sN (fun m => bt W m * wg k (gp W m)) i)) (nI i) = L_X6_sumOfGaps_12 X (nI w) (nI k) (lN W) (fun w => some w) f (nI (sN (fun m => bt W m * wg k (gp W m)) i + bt W i * wg k (gp W i))) (nI (i + 1))
    rw [L_X6_sumOfGaps_12, if_neg (show ¬ (60 : Int32) ≤ nI i from nI_ge (b := 60) hi (by decide)), e_in g.1 hi, e_gX g hi, Option.bind_some, Option.bind_some, e_wg hk (by unfold gp; omega) (gp_le W i), Option.bind_some]
    simp only [lt, nI_1, nI_add]
    rcases bt_01 W i with e | e
    · rw [e, if_pos nI_0, Nat.zero_mul, Nat.add_zero (sN _ i)]
    · rw [e, if_neg (by decide), Nat.one_mul]
-- the two counts of one hour
theorem sN_cyc (g : Nat → Nat) : sN (fun m => g ((m + 1) % 60)) 60 = sN g 60 := by
  have h1 : sN (fun m => g ((m + 1) % 60)) 60 = sN (fun m => g ((m + 1) % 60)) 59 + g 0 := rfl
  have h2 : sN (fun m => g ((m + 1) % 60)) 59 = sN (fun m => g (1 + m)) 59 := sN_cong 59 (fun i hi => by
    show g ((i + 1) % 60) = g (1 + i)
    rw [show (i + 1) % 60 = 1 + i by omega])
  have h3 : sN g 60 = sN g 1 + sN (fun i => g (1 + i)) 59 := sN_app g 1 59
  have h4 : sN g 1 = 0 + g 0 := rfl
  omega
theorem e_A {W : Nat} (hx : ∃ j, j < 60 ∧ bt W j = 1) : sN (fun m => bt W m * wg 0 (gp W m)) 60 = 60 := by
  have h : sN (fun m => wt W m + bt W m * wg 0 (gp W m)) 60 = sN (fun m => 1 + wt W ((m + 1) % 60)) 60 := sN_cong 60 (fun m hm => by
    show wt W m + bt W m * wg 0 (gp W m) = _
    have e : wg 0 (gp W m) = 1 + wt W ((m + 1) % 60) := rfl
    rcases bt_01 W m with h | h
    · rw [h, wt_non hm h hx, e]; omega
    · rw [h, wt_bus hm h, e]; omega)
  rw [sN_add (fun m => wt W m) (fun m => bt W m * wg 0 (gp W m)), sN_add (fun _ => 1) (fun m => wt W ((m + 1) % 60)), sN_cyc (fun m => wt W m)] at h
  have o : sN (fun _ => 1) 60 = 60 := by decide
  omega
theorem e_B {W : Nat} (hx : ∃ j, j < 60 ∧ bt W j = 1) : sN (fun m => bt W m * wg 2 (gp W m)) 60 = sN (wt W) 60 := by
  have h : sN (fun m => tri (1 + wt W m) + bt W m * wg 2 (gp W m)) 60 = sN (fun m => tri (1 + wt W ((m + 1) % 60)) + wt W m) 60 := sN_cong 60 (fun m hm => by
    show tri (1 + wt W m) + bt W m * wg 2 (gp W m) = _
    have e : wg 2 (gp W m) = tri (1 + wt W ((m + 1) % 60)) := rfl
    rcases bt_01 W m with h | h
    · rw [h, wt_non hm h hx, e, Nat.add_comm 1 (1 + _), tri_s]; omega
    · rw [h, wt_bus hm h, e, show tri (1 + 0) = 0 from rfl]; omega)
  rw [sN_add (fun m => tri (1 + wt W m)) (fun m => bt W m * wg 2 (gp W m)), sN_add (fun m => tri (1 + wt W ((m + 1) % 60))) (fun m => wt W m), sN_cyc (fun m => tri (1 + wt W m))] at h
  have : sN (fun m => wt W m) 60 = sN (wt W) 60 := rfl
  omega
theorem e_lM {X M : zSt} {w W : Nat} (g : gB X M w W) (hx : ∃ j, j < 60 ∧ bt W j = 1) (a2 a3 x4 : Int32) (k : Int64 → Int64 → Option Int64) : L_X11_gapsNow_27 M (nI w) a2 a3 x4 k 1000 0 0 0 = k (lN (sN (fun m => bt W m * wg 1 (gp W m)) 60)) (lN (sN (wt W) 60)) := by
  refine loopN (L := fun f (q : Int64 × Int64 × Int32) => L_X11_gapsNow_27 M (nI w) a2 a3 x4 k f q.1 q.2.1 q.2.2) (st := fun i => (lN (sN (fun m => bt W m * wg 1 (gp W m)) i), lN (sN (wt W) i), nI i)) 60 _ (fun f => ?_) (fun f i hi => ?_) 1000 0 (by omega) (by omega)
  · show L_X11_gapsNow_27 M (nI w) a2 a3 x4 k (f + 1) _ _ (nI 60) = _
    rw [L_X11_gapsNow_27, if_pos (by decide)]
  · show L_X11_gapsNow_27 M (nI w) a2 a3 x4 k (f + 1) (lN (sN (fun m => bt W m * wg 1 (gp W m)) i)) (lN (sN (wt W) i)) (nI i) = L_X11_gapsNow_27 M (nI w) a2 a3 x4 k f (lN (sN (fun m => bt W m * wg 1 (gp W m)) i + bt W i * wg 1 (gp W i))) (lN (sN (wt W) i + wt W i)) (nI (i + 1))
    have hg := gp_le W i
    have hw := wt_le W i
    have hm : gp W i * gp W i ≤ 61 * 61 := Nat.mul_le_mul hg hg
    rw [L_X11_gapsNow_27, if_neg (show ¬ (60 : Int32) ≤ nI i from nI_ge (b := 60) hi (by decide)), g.2.2 i hi, e_gM g hi hx, e_wM g hi hx]
    simp only [lt, jn, nI_1, Option.bind_some]
    rw [nI_l (show wt W i < 2 ^ 31 by omega), lN_add]
    rcases bt_01 W i with e | e
    · rw [e, if_pos nI_0, show ((0 : Int32) * 0).toInt64 = lN 0 by decide, lN_add, Nat.zero_mul]
    · rw [e, if_neg (by decide), lN_m _ _ (by omega) (by omega) (by omega), lN_add, Nat.one_mul]
      rfl
theorem e_gaps {X M : zSt} (hR : zR X M) {w k : Nat} (hw : w ≤ 2) (hk : k ≤ 2) {a3 : Int32} (h3 : (0 : Int32) ≤ a3 ∧ a3 ≤ 1) : ∃ r, F_X10_gaps X (nI w) (nI k) a3 = some r ∧ F_X11_gapsNow M (nI w) (nI k) a3 = some r := by
  obtain ⟨W, g⟩ := e_gB hR.2.1 hw
  have hc := c_le W
  have h1 : (0 : Int32) ≤ nI w ∧ nI w ≤ 2 := rng' (a := 0) (b := 2) (by omega) hw (by decide)
  have h2 : (0 : Int32) ≤ nI k ∧ nI k ≤ 2 := rng' (a := 0) (b := 2) (by omega) hk (by decide)
  have x : F_X10_gaps X (nI w) (nI k) a3 = if nI (sN (bt W) 60) = 0 then F_X11_no (-3) else F_X2_told (nI (sN (fun m => bt W m * wg k (gp W m)) 60)).toInt64 ((if k = 0 then nI (sN (bt W) 60) else 60).toInt64) a3 := by
    unfold F_X10_gaps
    rw [p_out, p_out, p_out, if_pos h1, if_pos h2, if_pos h3, e_cX g, e_sX g hk]
    simp only [jn, lt, Option.bind_some, if_true, bso]
    by_cases z : nI (sN (bt W) 60) = 0
    · rw [if_pos z, if_pos z]; rfl
    · rw [if_neg z, if_neg z]
      by_cases y : k = 0
      · rw [y, if_pos nI_0, if_pos rfl]
      · rw [if_neg (nI_ne0 (by omega) (by omega)), if_neg y]
  rw [x]
  have m : F_X11_gapsNow M (nI w) (nI k) a3 = if nI (sN (bt W) 60) = 0 then F_X11_no (-3) else L_X11_gapsNow_27 M (nI w) (nI k) a3 (nI (sN (bt W) 60)) (fun w5 w7 => if nI k = 0 then F_X11_lowest 60 (nI (sN (bt W) 60)).toInt64 a3 else if nI k = 1 then F_X11_lowest w5 60 a3 else F_X11_lowest w7 60 a3) 1000 0 0 0 := by
    refine (F_X11_gapsNow.eq_1 M (nI w) (nI k) a3).trans ?_
    rw [e_cM g, Option.bind_some]
    refine (lt_eq _ _).trans ?_
    simp only [bso]
    by_cases z : nI (sN (bt W) 60) = 0
    · rw [if_pos z, if_pos z]
    · rw [if_neg z, if_neg z]
      refine (lt_eq _ _).trans ?_
      refine (lt_eq _ _).trans ?_
      refine (lt_eq _ _).trans ?_
      rfl
  rw [m]
  by_cases z : sN (bt W) 60 = 0
  · rw [z, if_pos nI_0, if_pos nI_0]
    exact ⟨_, rfl, rfl⟩
  · have hx := c_ex z
    rw [if_neg (nI_ne0 (by omega) (by omega)), if_neg (nI_ne0 (by omega) (by omega)), e_lM g hx]
    have c : k = 0 ∨ k = 1 ∨ k = 2 := by omega
    rcases c with rfl | rfl | rfl
    · rw [if_pos rfl, if_pos nI_0, e_A hx, nI_l (by omega), nI_l (by omega)]
      exact fr_eq (by omega) (by omega) (by omega) a3
    · have hb : sN (fun m => bt W m * wg 1 (gp W m)) 60 ≤ 60 * 3721 := sN_le' _ 3721 60 (fun i _ => by
        have hg := gp_le W i
        have hm : gp W i * gp W i ≤ 61 * 61 := Nat.mul_le_mul hg hg
        have e : wg 1 (gp W i) = gp W i * gp W i := rfl
        rcases bt_01 W i with q | q <;> rw [q, e] <;> omega)
      rw [if_neg (by decide), if_neg (by decide), if_pos (show nI 1 = (1 : Int32) from rfl), nI_l (by omega), show ((60 : Int32)).toInt64 = lN 60 by decide]
      exact fr_eq (by omega) (by omega) (by omega) a3
    · have hb : sN (wt W) 60 ≤ 60 * 60 := sN_le' _ 60 60 (fun i _ => wt_le W i)
      rw [if_neg (by decide), if_neg (by decide), if_neg (show ¬ nI 2 = (1 : Int32) by decide), e_B hx, nI_l (by omega), show ((60 : Int32)).toInt64 = lN 60 by decide]
      exact fr_eq (by omega) (by omega) (by omega) a3
theorem a_gaps : ag_gaps zR := by
  intro X M a1 a2 a3 hR
  have bad : ∀ o : Option Int64, F_X10_gaps X a1 a2 a3 = F_X2_refused (-2) → F_X11_gaps M a1 a2 a3 = F_X11_no (-2) → ∃ r, F_X10_gaps X a1 a2 a3 = some r ∧ F_X11_gaps M a1 a2 a3 = some r := fun _ e1 e2 => ⟨_, e1, e2⟩
  have mm : F_X11_gaps M a1 a2 a3 = if (0 : Int32) ≤ a1 ∧ a1 ≤ 2 then (if (0 : Int32) ≤ a2 ∧ a2 ≤ 2 then (if (0 : Int32) ≤ a3 ∧ a3 ≤ 1 then F_X11_gapsNow M a1 a2 a3 else F_X11_no (-2)) else F_X11_no (-2)) else F_X11_no (-2) := by
    unfold F_X11_gaps
    rw [p_in, p_in, p_in]
    simp only [jn, Option.bind_some, bso]
    by_cases h1 : (0 : Int32) ≤ a1 ∧ a1 ≤ 2
    · rw [if_pos h1, if_pos h1, if_neg i01]
      by_cases h2 : (0 : Int32) ≤ a2 ∧ a2 ≤ 2
      · rw [if_pos h2, if_pos h2, if_neg i01]
        by_cases h3 : (0 : Int32) ≤ a3 ∧ a3 ≤ 1
        · rw [if_pos h3, if_pos h3, if_neg i01]
        · rw [if_neg h3, if_neg h3, if_pos rfl]
      · rw [if_neg h2, if_neg h2, if_pos rfl]
    · rw [if_neg h1, if_neg h1, if_pos rfl]
  by_cases h1 : (0 : Int32) ≤ a1 ∧ a1 ≤ 2
  · by_cases h2 : (0 : Int32) ≤ a2 ∧ a2 ≤ 2
    · by_cases h3 : (0 : Int32) ≤ a3 ∧ a3 ≤ 1
      · rw [mm, if_pos h1, if_pos h2, if_pos h3]
        obtain ⟨w, -, hw, rfl⟩ := rng 0 2 rfl rfl (by decide) (by decide) h1
        obtain ⟨k, -, hk, rfl⟩ := rng 0 2 rfl rfl (by decide) (by decide) h2
        exact e_gaps hR hw hk h3
      · rw [mm, if_pos h1, if_pos h2, if_neg h3]
        unfold F_X10_gaps
        rw [p_out, p_out, p_out, if_pos h1, if_pos h2, if_neg h3]
        exact ⟨_, rfl, rfl⟩
    · rw [mm, if_pos h1, if_neg h2]
      unfold F_X10_gaps
      rw [p_out, p_out, if_pos h1, if_neg h2]
      exact ⟨_, rfl, rfl⟩
  · rw [mm, if_neg h1]
    unfold F_X10_gaps
    rw [p_out, if_neg h1]
    exact ⟨_, rfl, rfl⟩
