theorem sN_le' (g : Nat → Nat) (B : Nat) : ∀ n, (∀ i, i < n → g i ≤ B) → sN g n ≤ n * B
  | 0, _ => by simp [sN]
  | n + 1, h => by
    have := sN_le' g B n (fun i hi => h i (by omega))
    have := h n (by omega)
    rw [Nat.succ_mul]
    unfold sN
    omega
theorem wN2_le {f l a b : Nat} (h : l ≤ f + 19) : wN 2 f l a b ≤ 20 := by
  unfold wN wD
  simp only [show ¬ (2 : Nat) = 0 by decide, show ¬ (2 : Nat) = 1 by decide, if_false, if_true]
  split <;> omega
/-- a sum, as a number that is small -/
theorem w_s {X M : zSt} (hR : zR X M) {a b : Nat} (hb : b ≤ 99) (hab : a ≤ b) (k : Nat) (hk : k ≤ 6) : ∃ v : Nat, v < 2 ^ 40 ∧ (k = 2 → v ≤ 480) ∧ F_X9_sum X (nI a) (nI b) (nI k) = some (lN v) ∧ F_X11_wardOf M (nI a) (nI b) (nI k) = some (lN v) := by
  obtain ⟨n, h1, -, -, h3, h4, h5⟩ := w_sum hR hb hab hk
  refine ⟨_, ?_, ?_, h4, h5⟩
  · have := sN_le' (fun i => wN k (wf M i) (wl M i) a b) (20 * 232792560) n (fun i hi => wN_le (h3 i hi))
    have : n * (20 * 232792560) ≤ 24 * (20 * 232792560) := Nat.mul_le_mul_right _ h1
    omega
  · rintro rfl
    have := sN_le' (fun i => wN 2 (wf M i) (wl M i) a b) 20 n (fun i hi => wN2_le (h3 i hi))
    omega
theorem w_ward {X M : zSt} (hR : zR X M) {a b k : Nat} (hb : b ≤ 99) (hab : a ≤ b) (hk : k ≤ 3) : ∃ r, F_X10_ward X (nI a) (nI b) (nI k) = some r ∧ F_X11_wardNow M (nI a) (nI b) (nI k) = some r := by
  obtain ⟨v0, -, -, x0, y0⟩ := w_s hR hb hab 0 (by omega)
  obtain ⟨v1, -, -, x1, y1⟩ := w_s hR hb hab 1 (by omega)
  obtain ⟨v2, -, -, x2, y2⟩ := w_s hR hb hab 2 (by omega)
  obtain ⟨v3, -, -, x3, y3⟩ := w_s hR hb hab 3 (by omega)
  have x0 : F_X9_sum X (nI a) (nI b) 0 = some (lN v0) := x0
  have x1 : F_X9_sum X (nI a) (nI b) 1 = some (lN v1) := x1
  have x2 : F_X9_sum X (nI a) (nI b) 2 = some (lN v2) := x2
  have x3 : F_X9_sum X (nI a) (nI b) 3 = some (lN v3) := x3
  have z0 : F_X11_wardOf M (nI a) (nI b) 0 = some (lN v0) := y0
  have z2 : F_X11_wardOf M (nI a) (nI b) 2 = some (lN v2) := y2
  have z3 : F_X11_wardOf M (nI a) (nI b) 3 = some (lN v3) := y3
  have hs : ((0 : Int32) ≤ nI a ∧ nI a ≤ 99) ∧ (nI a ≤ nI b ∧ nI b ≤ 99) := ⟨rng' (a := 0) (b := 99) (by omega) (by omega) (by decide), nI_le hab (by omega), nI_le (b := 99) hb (by decide)⟩
  unfold F_X10_ward F_X11_wardNow
  rw [p_noSpan, if_pos hs, Option.bind_some, if_pos rfl, p_out, if_pos (show (0 : Int32) ≤ nI k ∧ nI k ≤ 3 from rng' (a := 0) (b := 3) (by omega) hk (by decide)), Option.bind_some, if_pos rfl, x0, x1, x2, x3, z0, z2, z3]
  have cases : k = 0 ∨ k = 1 ∨ k = 2 ∨ k = 3 := by omega
  rcases cases with rfl | rfl | rfl | rfl
  · rw [y0]; exact ⟨_, rfl, rfl⟩
  · rw [y1]; exact ⟨_, rfl, rfl⟩
  · rw [y2]; exact ⟨_, rfl, rfl⟩
  · simp only [Option.bind_some]
    rw [if_neg (show ¬ nI 3 = 0 by decide), if_neg (show ¬ nI 3 = 1 by decide), if_neg (show ¬ nI 3 = 2 by decide), if_pos (show (3 : Int32) ≤ nI 3 by decide)]
    by_cases q : lg_cmp (lN v0) 0 = 0
    · rw [if_pos q]; exact ⟨_, rfl, rfl⟩
    · rw [if_neg q]
      by_cases q2 : lg_cmp (lN v3) (lN v2) = 0
      · rw [if_pos q2]; exact ⟨_, rfl, rfl⟩
      · rw [if_neg q2]; exact ⟨_, rfl, rfl⟩
theorem a_ward : ag_ward zR := by
  intro SX SM a1 a2 a3 hR
  by_cases hs : ((0 : Int32) ≤ a1 ∧ a1 ≤ 99) ∧ (a1 ≤ a2 ∧ a2 ≤ 99)
  · by_cases h3 : (0 : Int32) ≤ a3 ∧ a3 ≤ 3
    · obtain ⟨a, -, ha, rfl⟩ := rng 0 99 rfl rfl (by decide) (by decide) hs.1
      obtain ⟨b, hab, hb, rfl⟩ := rng a 99 rfl rfl (by decide) (by omega) hs.2
      obtain ⟨k, -, hk, rfl⟩ := rng 0 3 rfl rfl (by decide) (by decide) h3
      obtain ⟨r, r1, r2⟩ := w_ward hR hb hab hk
      refine ⟨r, r1, ?_⟩
      unfold F_X11_ward
      rw [p_isSpan, if_pos hs, Option.bind_some, if_neg i01, p_in, if_pos h3, Option.bind_some, if_neg i01, r2]
      rfl
    · unfold F_X10_ward F_X11_ward
      rw [p_noSpan, p_isSpan, if_pos hs, if_pos hs, Option.bind_some, Option.bind_some, if_pos rfl, if_neg i01, p_out, p_in, if_neg h3, if_neg h3]
      exact ⟨_, rfl, rfl⟩
  · unfold F_X10_ward F_X11_ward
    rw [p_noSpan, p_isSpan, if_neg hs, if_neg hs]
    exact ⟨_, rfl, rfl⟩
/-- a fraction or 'none to divide by' -/
theorem fr_any {A B : Nat} (hA : A < 2 ^ 63) (hB : B < 2 ^ 62) (w : Int32) : ∃ r, F_X2_told (lN A) (lN B) w = some r ∧ (if lg_cmp (lN B) 0 = 0 then (F_X11_no (-3)).bind (fun r => some r) else (F_X11_lowest (lN A) (lN B) w).bind (fun r => some r)) = some r := by
  by_cases h : B = 0
  · subst h
    rw [fr_0, if_pos (show lg_cmp (lN 0) 0 = 0 by decide)]
    exact ⟨_, rfl, rfl⟩
  · obtain ⟨r, r1, r2⟩ := fr_eq hA (by omega) hB w
    rw [if_neg (fun q => h ((lN_eq0 (by omega)).mp q)), r1, r2]
    exact ⟨r, rfl, rfl⟩
theorem w_means {X M : zSt} (hR : zR X M) {a b k : Nat} (hb : b ≤ 99) (hab : a ≤ b) (hk : k ≤ 5) {w : Int32} (hw : (0 : Int32) ≤ w ∧ w ≤ 1) : ∃ r, F_X10_means X (nI a) (nI b) (nI k) w = some r ∧ F_X11_meansNow M (nI a) (nI b) (nI k) w = some r := by
  obtain ⟨v0, b0, -, x0, z0⟩ := w_s hR hb hab 0 (by omega)
  obtain ⟨v1, b1, -, x1, z1⟩ := w_s hR hb hab 1 (by omega)
  obtain ⟨v2, b2, c2, x2, z2⟩ := w_s hR hb hab 2 (by omega)
  obtain ⟨v3, b3, -, x3, z3⟩ := w_s hR hb hab 3 (by omega)
  obtain ⟨v4, b4, -, x4, z4⟩ := w_s hR hb hab 4 (by omega)
  obtain ⟨v5, b5, -, x5, z5⟩ := w_s hR hb hab 5 (by omega)
  obtain ⟨v6, b6, -, x6, z6⟩ := w_s hR hb hab 6 (by omega)
  have x0 : F_X9_sum X (nI a) (nI b) 0 = some (lN v0) := x0
  have x1 : F_X9_sum X (nI a) (nI b) 1 = some (lN v1) := x1
  have x2 : F_X9_sum X (nI a) (nI b) 2 = some (lN v2) := x2
  have x3 : F_X9_sum X (nI a) (nI b) 3 = some (lN v3) := x3
  have x4 : F_X9_sum X (nI a) (nI b) 4 = some (lN v4) := x4
  have x5 : F_X9_sum X (nI a) (nI b) 5 = some (lN v5) := x5
  have x6 : F_X9_sum X (nI a) (nI b) 6 = some (lN v6) := x6
  have z0 : F_X11_wardOf M (nI a) (nI b) 0 = some (lN v0) := z0
  have z1 : F_X11_wardOf M (nI a) (nI b) 1 = some (lN v1) := z1
  have z2 : F_X11_wardOf M (nI a) (nI b) 2 = some (lN v2) := z2
  have z3 : F_X11_wardOf M (nI a) (nI b) 3 = some (lN v3) := z3
  have z4 : F_X11_wardOf M (nI a) (nI b) 4 = some (lN v4) := z4
  have z5 : F_X11_wardOf M (nI a) (nI b) 5 = some (lN v5) := z5
  have z6 : F_X11_wardOf M (nI a) (nI b) 6 = some (lN v6) := z6
  have hs : ((0 : Int32) ≤ nI a ∧ nI a ≤ 99) ∧ (nI a ≤ nI b ∧ nI b ≤ 99) := ⟨rng' (a := 0) (b := 99) (by omega) (by omega) (by decide), nI_le hab (by omega), nI_le (b := 99) hb (by decide)⟩
  have c2 := c2 rfl
  unfold F_X10_means F_X11_meansNow F_X9_above F_X9_below
  rw [p_noSpan, if_pos hs, Option.bind_some]
  simp only [jn, lt]
  rw [if_true, p_out, if_pos (show (0 : Int32) ≤ nI k ∧ nI k ≤ 5 from rng' (a := 0) (b := 5) (by omega) hk (by decide)), Option.bind_some, if_pos rfl, p_out, if_pos hw, Option.bind_some, if_pos rfl, x0, x1, x2, x3, x4, x5, x6, z0, z1, z2, z3, z4, z5, z6]
  simp only [Option.bind_some]
  rw [q_pos hab, nI_l (by omega), show (232792560 : Int64) = lN 232792560 from rfl, lN_mul]
  have cases : k = 0 ∨ k = 1 ∨ k = 2 ∨ k = 3 ∨ k = 4 ∨ k = 5 := by omega
  have fin : ∀ A B : Nat, A < 2 ^ 63 → B < 2 ^ 62 → ∃ r, (F_X2_told (lN A) (lN B) w).bind (fun r => some r) = some r ∧ (if lg_cmp (lN B) 0 = 0 then (F_X11_no (-3)).bind (fun r => some r) else (F_X11_lowest (lN A) (lN B) w).bind (fun r => some r)) = some r := fun A B hA hB => by
    obtain ⟨r, r1, r2⟩ := fr_any hA hB w
    exact ⟨r, by rw [r1]; rfl, r2⟩
  rcases cases with rfl | rfl | rfl | rfl | rfl | rfl
  · exact fin v3 v0 (by omega) (by omega)
  · exact fin v4 v1 (by omega) (by omega)
  · exact fin v5 v2 (by omega) (by omega)
  · exact fin (v2 * 232792560) v6 (by omega) (by omega)
  · exact fin v0 (b - a + 1) (by omega) (by omega)
  · exact fin v2 (b - a + 1) (by omega) (by omega)
theorem a_means : ag_means zR := by
  intro SX SM a1 a2 a3 a4 hR
  by_cases hs : ((0 : Int32) ≤ a1 ∧ a1 ≤ 99) ∧ (a1 ≤ a2 ∧ a2 ≤ 99)
  · by_cases h3 : (0 : Int32) ≤ a3 ∧ a3 ≤ 5
    · by_cases h4 : (0 : Int32) ≤ a4 ∧ a4 ≤ 1
      · obtain ⟨a, -, ha, rfl⟩ := rng 0 99 rfl rfl (by decide) (by decide) hs.1
        obtain ⟨b, hab, hb, rfl⟩ := rng a 99 rfl rfl (by decide) (by omega) hs.2
        obtain ⟨k, -, hk, rfl⟩ := rng 0 5 rfl rfl (by decide) (by decide) h3
        obtain ⟨r, r1, r2⟩ := w_means hR hb hab hk h4
        refine ⟨r, r1, ?_⟩
        unfold F_X11_means
        rw [p_isSpan, if_pos hs, Option.bind_some]
        simp only [jn]
        rw [if_neg i01, p_in, if_pos h3, Option.bind_some, if_neg i01, p_in, if_pos h4, Option.bind_some, if_neg i01, r2]
        rfl
      · unfold F_X10_means F_X11_means
        rw [p_noSpan, p_isSpan, if_pos hs, if_pos hs, Option.bind_some, Option.bind_some]
        simp only [jn]
        rw [if_true, if_neg i01, p_out, p_in, if_pos h3, if_pos h3, Option.bind_some, Option.bind_some, if_pos rfl, if_neg i01, p_out, p_in, if_neg h4, if_neg h4]
        exact ⟨_, rfl, rfl⟩
    · unfold F_X10_means F_X11_means
      rw [p_noSpan, p_isSpan, if_pos hs, if_pos hs, Option.bind_some, Option.bind_some]
      simp only [jn]
      rw [if_true, if_neg i01, p_out, p_in, if_neg h3, if_neg h3]
      exact ⟨_, rfl, rfl⟩
  · unfold F_X10_means F_X11_means
    rw [p_noSpan, p_isSpan, if_neg hs, if_neg hs]
    exact ⟨_, rfl, rfl⟩
-- the fullest day
def yD (M : zSt) (n d : Nat) : Nat := sN (fun i => wN 2 (wf M i) (wl M i) d d) n
def bm (y : Nat → Nat) : Nat → Nat × Nat
  | 0 => (0, 0)
  | i + 1 => if y i ≤ (bm y i).2 then bm y i else (i, y i)
theorem bm_ok (y : Nat → Nat) : ∀ i, (bm y (i + 1)).2 = y (bm y (i + 1)).1 ∧ (bm y (i + 1)).1 ≤ i
  | 0 => by
    show (if y 0 ≤ 0 then ((0, 0) : Nat × Nat) else (0, y 0)).2 = y (if y 0 ≤ 0 then ((0, 0) : Nat × Nat) else (0, y 0)).1 ∧ (if y 0 ≤ 0 then ((0, 0) : Nat × Nat) else (0, y 0)).1 ≤ 0
    split
    · exact ⟨by show 0 = y 0; omega, Nat.le_refl 0⟩
    · exact ⟨rfl, Nat.le_refl 0⟩
  | i + 1 => by
    have h := bm_ok y i
    show (if y (i + 1) ≤ (bm y (i + 1)).2 then bm y (i + 1) else (i + 1, y (i + 1))).2 = y (if y (i + 1) ≤ (bm y (i + 1)).2 then bm y (i + 1) else (i + 1, y (i + 1))).1 ∧ (if y (i + 1) ≤ (bm y (i + 1)).2 then bm y (i + 1) else (i + 1, y (i + 1))).1 ≤ i + 1
    split
    · exact ⟨h.1, by omega⟩
    · exact ⟨rfl, Nat.le_refl _⟩
theorem wN12 (f l d : Nat) : wN 1 f l d d = wN 2 f l d d := by
  unfold wN wD
  simp only [show ¬ (1 : Nat) = 0 by decide, show ¬ (2 : Nat) = 0 by decide, show ¬ (2 : Nat) = 1 by decide, if_false, if_true]
  split
  · rw [if_neg (by omega)]; omega
  · rfl
theorem f_day {X M : zSt} (hR : zR X M) : ∃ y : Nat → Nat, (∀ d, y d ≤ 480) ∧ (∀ d, d ≤ 99 → F_X9_lyingOn X (nI d) = some (nI (y d)) ∧ F_X11_wardOf M (nI d) (nI d) 2 = some (lN (y d))) := by
  obtain ⟨n, h1, e1, -⟩ := w_sum hR (a := 0) (b := 0) (k := 0) (by omega) (by omega) (by omega)
  refine ⟨fun d => if d ≤ 99 then yD M n d else 0, fun d => ?_, fun d hd => ?_⟩
  · dsimp only
    split
    · rename_i hd
      obtain ⟨n', q1, q2, -, q3, -⟩ := w_sum hR (a := d) (b := d) (k := 2) hd (Nat.le_refl d) (by omega)
      have e : n = n' := (nI_eq (by omega) (by omega)).mp (e1.symm.trans q2)
      subst e
      have := sN_le' (fun i => wN 2 (wf M i) (wl M i) d d) 20 n (fun i hi => wN2_le (q3 i hi))
      unfold yD
      omega
    · omega
  · dsimp only
    rw [if_pos hd]
    obtain ⟨n1, q1, q2, -, -, q4, -⟩ := w_sum hR (a := d) (b := d) (k := 1) hd (Nat.le_refl d) (by omega)
    obtain ⟨n2, p1, p2, -, -, -, p5⟩ := w_sum hR (a := d) (b := d) (k := 2) hd (Nat.le_refl d) (by omega)
    have e : n = n1 := (nI_eq (by omega) (by omega)).mp (e1.symm.trans q2)
    have e' : n = n2 := (nI_eq (by omega) (by omega)).mp (e1.symm.trans p2)
    subst e
    subst e'
    refine ⟨?_, p5⟩
    unfold F_X9_lyingOn
    have q4 : F_X9_sum X (nI d) (nI d) 1 = _ := q4
    rw [q4, Option.bind_some, lN_i]
    unfold yD
    rw [show (fun i => wN 1 (wf M i) (wl M i) d d) = (fun i => wN 2 (wf M i) (wl M i) d d) from funext fun i => wN12 _ _ _]
theorem f_best {X M : zSt} (hR : zR X M) : ∃ (d v : Nat), d ≤ 99 ∧ v ≤ 480 ∧ F_X9_fullestDay X = some (nI d) ∧ F_X9_lyingOn X (nI d) = some (nI v) ∧ ∀ a1 : Int32, ¬ a1 = 2 → F_X11_fullestNow M a1 = if a1 = 0 then some (nI d) else some (nI v) := by
  obtain ⟨y, hy, hd⟩ := f_day hR
  have hm : ∀ i, (bm y i).2 ≤ 480 := fun i => by
    cases i with
    | zero => exact Nat.zero_le _
    | succ i => rw [(bm_ok y i).1]; exact hy _
  refine ⟨(bm y 100).1, (bm y 100).2, (bm_ok y 99).2, hm 100, ?_, ?_, fun a1 ha => ?_⟩
  · unfold F_X9_fullestDay
    simp only [lt]
    refine loopN (L := fun f (q : Int32 × Int32 × Int32) => L_X9_fullestDay_6 X (fun w => some w) f q.1 q.2.1 q.2.2) (st := fun i => (nI (bm y i).1, nI (bm y i).2, nI i)) 100 _ (fun f => ?_) (fun f i hi => ?_) 1000 0 (by omega) (by omega)
    · show L_X9_fullestDay_6 X (fun w => some w) (f + 1) _ _ (nI 100) = _
      rw [L_X9_fullestDay_6, if_pos (by decide)]
    · show L_X9_fullestDay_6 X (fun w => some w) (f + 1) (nI (bm y i).1) (nI (bm y i).2) (nI i) = L_X9_fullestDay_6 X (fun w => some w) f (nI (if y i ≤ (bm y i).2 then bm y i else (i, y i)).1) (nI (if y i ≤ (bm y i).2 then bm y i else (i, y i)).2) (nI (i + 1))
      rw [L_X9_fullestDay_6, if_neg (show ¬ (99 : Int32) < nI i from nI_nlt (a := 99) (by omega) (by decide)), (hd i (by omega)).1, Option.bind_some]
      simp only [lt, nI_1]
      have := hm i
      have := hy i
      by_cases q : y i ≤ (bm y i).2
      · rw [if_pos (nI_le q (by omega)), if_pos q]
      · rw [if_neg (nI_ge (by omega) (by omega)), if_neg q]
  · rw [(hd _ (bm_ok y 99).2).1, (bm_ok y 99).1]
  · unfold F_X11_fullestNow
    rw [if_neg ha]
    simp only [lt]
    refine loopN (L := fun f (q : Int32 × Int32 × Int32) => L_X11_fullestNow_17 M a1 (fun w2 w3 => if a1 = 0 then some w2 else some w3) f q.1 q.2.1 q.2.2) (st := fun i => (nI (bm y i).1, if i = 0 then -1 else nI (bm y i).2, nI i)) 100 _ (fun f => ?_) (fun f i hi => ?_) 1000 0 (by omega) (by omega)
    · show L_X11_fullestNow_17 M a1 _ (f + 1) _ _ (nI 100) = _
      rw [L_X11_fullestNow_17, if_pos (by decide)]
      rfl
    · show L_X11_fullestNow_17 M a1 _ (f + 1) (nI (bm y i).1) (if i = 0 then -1 else nI (bm y i).2) (nI i) = L_X11_fullestNow_17 M a1 _ f (nI (if y i ≤ (bm y i).2 then bm y i else (i, y i)).1) (if i + 1 = 0 then -1 else nI (if y i ≤ (bm y i).2 then bm y i else (i, y i)).2) (nI (i + 1))
      rw [L_X11_fullestNow_17, if_neg (show ¬ (100 : Int32) ≤ nI i from nI_ge (b := 100) hi (by decide)), (hd i (by omega)).2, Option.bind_some, if_neg (show ¬ i + 1 = 0 by omega)]
      simp only [lt, jn, nI_1, lN_i]
      have := hm i
      have := hy i
      by_cases i0 : i = 0
      · subst i0
        rw [if_pos rfl]
        have c : ¬ nI (y 0) ≤ -1 := by
          rw [Int32.le_iff_toInt_le, nI_toInt (by omega)]
          have : (-1 : Int32).toInt = -1 := by decide
          omega
        rw [if_neg c, if_neg c]
        have e1 : (if y 0 ≤ (bm y 0).2 then bm y 0 else (0, y 0)).1 = 0 := by split <;> rfl
        have e2 : (if y 0 ≤ (bm y 0).2 then bm y 0 else (0, y 0)).2 = y 0 := by
          split
          · rename_i h
            have h : y 0 ≤ 0 := h
            show 0 = y 0
            omega
          · rfl
        rw [e1, e2]
      · rw [if_neg i0]
        by_cases q : y i ≤ (bm y i).2
        · rw [if_pos (nI_le q (by omega)), if_pos (nI_le q (by omega)), if_pos q]
        · rw [if_neg (nI_ge (by omega) (by omega)), if_neg (nI_ge (by omega) (by omega)), if_neg q]
