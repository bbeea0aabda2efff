theorem q_min (a b : Nat) (ha : a < 2 ^ 31) (hb : b < 2 ^ 31) : zmin (nI a) (nI b) = nI (min a b) := by
  unfold zmin
  by_cases h : b < a
  · rw [if_pos (nI_lt h ha), Nat.min_eq_right (by omega)]
  · rw [if_neg (nI_nlt (by omega) hb), Nat.min_eq_left (by omega)]
theorem q_max (a b : Nat) (ha : a < 2 ^ 31) (hb : b < 2 ^ 31) : zmax (nI a) (nI b) = nI (max a b) := by
  unfold zmax
  by_cases h : a < b
  · rw [if_pos (nI_lt h hb), Nat.max_eq_right (by omega)]
  · rw [if_neg (nI_nlt (by omega) ha), Nat.max_eq_left (by omega)]
theorem q_d1 (p q : Nat) : nI p - nI q + 1 = nI (p + 1) - nI q := by
  rw [← nI_1]
  grind
theorem q_neg {p q : Nat} (h : p < q) (hq : q < 2 ^ 30) : nI p - nI q + 1 ≤ 0 := by
  rw [q_d1, Int32.le_iff_toInt_le, pk_sub_toInt (by omega) (by omega), Int32.toInt_zero]
  omega
theorem q_pos {p q : Nat} (h : q ≤ p) : nI p - nI q + 1 = nI (p - q + 1) := by
  rw [pk_sub h, nI_1]
def wD (f l a b : Nat) : Nat := if max f a ≤ min l b then min l b - max f a + 1 else 0
def wN (k f l a b : Nat) : Nat := if k = 0 then (if a ≤ f ∧ f ≤ b then 1 else 0) else if k = 1 then (if wD f l a b = 0 then 0 else 1) else if k = 2 then wD f l a b else if k = 3 then (if a ≤ f ∧ f ≤ b then l - f + 1 else 0) else if k = 4 then (if wD f l a b = 0 then 0 else l - f + 1) else if k = 5 then wD f l a b * (l - f + 1) else wD f l a b * (232792560 / (l - f + 1))
theorem lit_ne {k j : Nat} (hk : k < 2 ^ 31) (hj : j < 2 ^ 31) (h : k ≠ j) : ¬ nI k = nI j := nI_ne h hk hj
theorem lN_m (x y : Nat) (hx : x < 2 ^ 31) (hy : y < 2 ^ 31) (hxy : x * y < 2 ^ 31) : (nI x * nI y).toInt64 = lN (x * y) := by
  rw [pk_mul, nI_l hxy]
theorem w_x {X : zSt} {i f l a b k : Nat} (hi : i < 24) (h1 : f ≤ l) (h2 : l ≤ 99) (h3 : l ≤ f + 19) (hb : b ≤ 99) (hab : a ≤ b) (hk : k ≤ 6) (x1 : zA X 19 i = nI f) (x2 : zA X 20 i = nI l) : F_X9_weight X (nI i) (nI a) (nI b) (nI k) = some (lN (wN k f l a b)) := by
  unfold F_X9_weight
  simp only [ibd_nI hi (show 24 < 2 ^ 31 by decide), nIN (show i < 2 ^ 31 by omega), x1, x2, lt, jn, q_min l b (by omega) (by omega), q_max f a (by omega) (by omega), q_pos h1]
  have hL : ¬ nI (l - f + 1) = 0 := fun q => by
    have := (nI_eq0 (by omega)).mp q
    omega
  have hL0 : 0 < nI (l - f + 1) := by
    rw [show (0 : Int32) = nI 0 from rfl]
    exact nI_lt (by omega) (by omega)
  by_cases hD : max f a ≤ min l b
  · have eD : wD f l a b = min l b - max f a + 1 := if_pos hD
    rw [q_pos hD, ← eD, if_neg (fun q => by have := (nI_le0 (by omega)).mp q; omega), if_pos hL0]
    have hD0 : wD f l a b ≠ 0 := by omega
    have hDm : wD f l a b ≤ 20 := by omega
    generalize wD f l a b = D at eD hD0 hDm ⊢
    have hc : (nI f < nI a) ↔ ¬ (a ≤ f ∧ f ≤ b) := by
      rw [nI_ltI (by omega) (by omega)]
      omega
    have cases : k = 0 ∨ k = 1 ∨ k = 2 ∨ k = 3 ∨ k = 4 ∨ k = 5 ∨ k = 6 := by omega
    have wn : wN k f l a b = (if k = 0 then (if a ≤ f ∧ f ≤ b then 1 else 0) else if k = 1 then 1 else if k = 2 then D else if k = 3 then (if a ≤ f ∧ f ≤ b then l - f + 1 else 0) else if k = 4 then l - f + 1 else if k = 5 then D * (l - f + 1) else D * (232792560 / (l - f + 1))) := by
      have e2 : wD f l a b = D := by rw [eD]; exact if_pos hD
      unfold wN
      rw [e2]
      simp only [hD0, if_false]
    rw [wn]
    by_cases hcm : a ≤ f ∧ f ≤ b
    · rw [if_neg (fun q => (hc.mp q) hcm), if_pos hcm, if_pos hcm]
      rcases cases with rfl | rfl | rfl | rfl | rfl | rfl | rfl
      · rfl
      · rfl
      · show some _ = _; rw [nI_l (by omega)]; rfl
      · show some _ = _; rw [nI_l (by omega)]; rfl
      · show some _ = _; rw [nI_l (by omega)]; rfl
      · show some _ = _
        rw [lN_m D (l - f + 1) (by omega) (by omega) (Nat.lt_of_le_of_lt (Nat.mul_le_mul hDm (show l - f + 1 ≤ 20 by omega)) (by decide))]; rfl
      · show nzl (nI (l - f + 1)).toInt64 (some ((nI D).toInt64 * ((232792560 : Int64) / (nI (l - f + 1)).toInt64))) = _
        rw [nI_l (by omega), nI_l (by omega)]
        unfold nzl
        rw [if_neg (lN_ne0 (by omega) (by omega)), show (232792560 : Int64) = lN 232792560 from rfl, pk_lDiv (by decide) (by omega) (by omega), lN_mul]; rfl
    · rw [if_pos (hc.mpr hcm), if_neg hcm, if_neg hcm]
      rcases cases with rfl | rfl | rfl | rfl | rfl | rfl | rfl
      · rfl
      · rfl
      · show some _ = _; rw [nI_l (by omega)]; rfl
      · rfl
      · show some _ = _; rw [nI_l (by omega)]; rfl
      · show some _ = _
        rw [lN_m D (l - f + 1) (by omega) (by omega) (Nat.lt_of_le_of_lt (Nat.mul_le_mul hDm (show l - f + 1 ≤ 20 by omega)) (by decide))]; rfl
      · show nzl (nI (l - f + 1)).toInt64 (some ((nI D).toInt64 * ((232792560 : Int64) / (nI (l - f + 1)).toInt64))) = _
        rw [nI_l (by omega), nI_l (by omega)]
        unfold nzl
        rw [if_neg (lN_ne0 (by omega) (by omega)), show (232792560 : Int64) = lN 232792560 from rfl, pk_lDiv (by decide) (by omega) (by omega), lN_mul]; rfl
  · rw [if_pos (q_neg (by omega) (by omega))]
    have e0 : wD f l a b = 0 := if_neg hD
    have hcm : ¬ (a ≤ f ∧ f ≤ b) := by omega
    unfold wN
    rw [e0]
    simp [hcm]
    rfl
def wf (M : zSt) (i : Nat) : Nat := (zA M 11 i).toNatClampNeg
def wl (M : zSt) (i : Nat) : Nat := (zA M 12 i).toNatClampNeg
def sN (g : Nat → Nat) : Nat → Nat
  | 0 => 0
  | n + 1 => sN g n + g n
theorem sN_le (g : Nat → Nat) (B : Nat) (h : ∀ i, g i ≤ B) : ∀ n, sN g n ≤ n * B
  | 0 => by simp [sN]
  | n + 1 => by
    have := sN_le g B h n
    have := h n
    rw [Nat.succ_mul]
    unfold sN
    omega
theorem m_days {M : zSt} {i f l a b : Nat} (hi : i < 24) (h1 : f ≤ l) (h2 : l ≤ 99) (hb : b ≤ 99) (hab : a ≤ b) (x1 : zA M 11 i = nI f) (x2 : zA M 12 i = nI l) : F_X11_daysIn M (nI i) (nI a) (nI b) = some (nI (wD f l a b)) := by
  unfold F_X11_daysIn
  simp only [ibd_nI hi (show 24 < 2 ^ 31 by decide), nIN (show i < 2 ^ 31 by omega), x1, x2, lt, jn]
  have key : ∀ p q : Nat, p ≤ 99 → q ≤ 99 → p = max f a → q = min l b → (if nI p ≤ nI q then some (nI q - nI p + 1) else some 0) = some (nI (wD f l a b)) := by
    rintro p q hp hq rfl rfl
    by_cases hD : max f a ≤ min l b
    · rw [if_pos (nI_le hD (by omega)), q_pos hD]
      unfold wD
      rw [if_pos hD]
    · rw [if_neg (nI_ge (by omega) (by omega))]
      unfold wD
      rw [if_neg hD]
      rfl
  by_cases c1 : nI f ≤ nI a
  · have d1 := (nI_leI (by omega) (by omega)).mp c1
    rw [if_pos c1]
    by_cases c2 : nI b ≤ nI l
    · have d2 := (nI_leI (by omega) (by omega)).mp c2
      rw [if_pos c2]
      exact key a b (by omega) hb (by omega) (by omega)
    · have d2 : ¬ b ≤ l := fun q => c2 (nI_le q (by omega))
      rw [if_neg c2]
      exact key a l (by omega) h2 (by omega) (by omega)
  · have d1 : ¬ f ≤ a := fun q => c1 (nI_le q (by omega))
    rw [if_neg c1]
    by_cases c2 : nI b ≤ nI l
    · have d2 := (nI_leI (by omega) (by omega)).mp c2
      rw [if_pos c2]
      exact key f b (by omega) hb (by omega) (by omega)
    · have d2 : ¬ b ≤ l := fun q => c2 (nI_le q (by omega))
      rw [if_neg c2]
      exact key f l (by omega) h2 (by omega) (by omega)
theorem w_step {M : zSt} {i f l a b k fu V : Nat} (kk : Int64 → Option Int64) (hn : ¬ zI M 5 ≤ nI i) (hi : i < 24) (h1 : f ≤ l) (h2 : l ≤ 99) (h3 : l ≤ f + 19) (hb : b ≤ 99) (hab : a ≤ b) (hk : k ≤ 6) (x1 : zA M 11 i = nI f) (x2 : zA M 12 i = nI l) : L_X11_wardOf_6 M (nI a) (nI b) (nI k) kk (fu + 1) (lN V) (nI i) = L_X11_wardOf_6 M (nI a) (nI b) (nI k) kk fu (lN (V + wN k f l a b)) (nI (i + 1)) := by
  rw [L_X11_wardOf_6, if_neg hn, m_days hi h1 h2 hb hab x1 x2, Option.bind_some]
  unfold F_X11_lengthOf
  simp only [ibd_nI hi (show 24 < 2 ^ 31 by decide), nIN (show i < 2 ^ 31 by omega), x1, x2, lt, q_pos h1, Option.bind_some, p_in, nI_1]
  have hc : (nI a ≤ nI f ∧ nI f ≤ nI b) ↔ (a ≤ f ∧ f ≤ b) := by
    rw [nI_leI (by omega) (by omega), nI_leI (by omega) (by omega)]
  have hDm : wD f l a b ≤ 20 := by
    unfold wD
    split <;> omega
  have cases : k = 0 ∨ k = 1 ∨ k = 2 ∨ k = 3 ∨ k = 4 ∨ k = 5 ∨ k = 6 := by omega
  have z0 : lN V + 0 = lN V := lN_add V 0
  have eD : (nI (wD f l a b) ≤ 0) ↔ wD f l a b = 0 := nI_le0 (by omega)
  rw [z0]
  unfold wN
  generalize wD f l a b = D at hDm eD ⊢
  rcases cases with rfl | rfl | rfl | rfl | rfl | rfl | rfl
  · rw [if_pos (show nI 0 = (0 : Int32) from rfl), if_pos (show (0 : Nat) = 0 from rfl)]
    by_cases q : a ≤ f ∧ f ≤ b
    · rw [if_pos (hc.mpr q), if_neg i01, if_pos q, lN_1]
    · rw [if_neg (fun z => q (hc.mp z)), if_pos rfl, if_neg q]; rfl
  · rw [if_neg (show ¬ nI 1 = (0 : Int32) by decide), if_pos (show nI 1 = (1 : Int32) from rfl), if_neg (show ¬ (1 : Nat) = 0 by decide), if_pos (show (1 : Nat) = 1 from rfl)]
    by_cases q : D = 0
    · rw [if_pos (eD.mpr q), if_pos q]; rfl
    · rw [if_neg (fun z => q (eD.mp z)), if_neg q, lN_1]
  · rw [if_neg (show ¬ nI 2 = (0 : Int32) by decide), if_neg (show ¬ nI 2 = (1 : Int32) by decide), if_pos (show nI 2 = (2 : Int32) from rfl), if_neg (show ¬ (2 : Nat) = 0 by decide), if_neg (show ¬ (2 : Nat) = 1 by decide), if_pos (show (2 : Nat) = 2 from rfl), nI_l (by omega), lN_add]
  · rw [if_neg (show ¬ nI 3 = (0 : Int32) by decide), if_neg (show ¬ nI 3 = (1 : Int32) by decide), if_neg (show ¬ nI 3 = (2 : Int32) by decide), if_pos (show nI 3 = (3 : Int32) from rfl), if_neg (show ¬ (3 : Nat) = 0 by decide), if_neg (show ¬ (3 : Nat) = 1 by decide), if_neg (show ¬ (3 : Nat) = 2 by decide), if_pos (show (3 : Nat) = 3 from rfl)]
    by_cases q : a ≤ f ∧ f ≤ b
    · rw [if_pos (hc.mpr q), if_neg i01, if_pos q, nI_l (by omega), lN_add]
    · rw [if_neg (fun z => q (hc.mp z)), if_pos rfl, if_neg q]; rfl
  · rw [if_neg (show ¬ nI 4 = (0 : Int32) by decide), if_neg (show ¬ nI 4 = (1 : Int32) by decide), if_neg (show ¬ nI 4 = (2 : Int32) by decide), if_neg (show ¬ nI 4 = (3 : Int32) by decide), if_pos (show nI 4 = (4 : Int32) from rfl), if_neg (show ¬ (4 : Nat) = 0 by decide), if_neg (show ¬ (4 : Nat) = 1 by decide), if_neg (show ¬ (4 : Nat) = 2 by decide), if_neg (show ¬ (4 : Nat) = 3 by decide), if_pos (show (4 : Nat) = 4 from rfl)]
    by_cases q : D = 0
    · rw [if_pos (eD.mpr q), if_pos q]; rfl
    · rw [if_neg (fun z => q (eD.mp z)), if_neg q, nI_l (by omega), lN_add]
  · rw [if_neg (show ¬ nI 5 = (0 : Int32) by decide), if_neg (show ¬ nI 5 = (1 : Int32) by decide), if_neg (show ¬ nI 5 = (2 : Int32) by decide), if_neg (show ¬ nI 5 = (3 : Int32) by decide), if_neg (show ¬ nI 5 = (4 : Int32) by decide), if_pos (show nI 5 = (5 : Int32) from rfl), if_neg (show ¬ (5 : Nat) = 0 by decide), if_neg (show ¬ (5 : Nat) = 1 by decide), if_neg (show ¬ (5 : Nat) = 2 by decide), if_neg (show ¬ (5 : Nat) = 3 by decide), if_neg (show ¬ (5 : Nat) = 4 by decide), if_pos (show (5 : Nat) = 5 from rfl), lN_m D (l - f + 1) (by omega) (by omega) (Nat.lt_of_le_of_lt (Nat.mul_le_mul hDm (show l - f + 1 ≤ 20 by omega)) (by decide)), lN_add]
  · rw [if_neg (show ¬ nI 6 = (0 : Int32) by decide), if_neg (show ¬ nI 6 = (1 : Int32) by decide), if_neg (show ¬ nI 6 = (2 : Int32) by decide), if_neg (show ¬ nI 6 = (3 : Int32) by decide), if_neg (show ¬ nI 6 = (4 : Int32) by decide), if_neg (show ¬ nI 6 = (5 : Int32) by decide), if_neg (show ¬ (6 : Nat) = 0 by decide), if_neg (show ¬ (6 : Nat) = 1 by decide), if_neg (show ¬ (6 : Nat) = 2 by decide), if_neg (show ¬ (6 : Nat) = 3 by decide), if_neg (show ¬ (6 : Nat) = 4 by decide), if_neg (show ¬ (6 : Nat) = 5 by decide), nI_l (by omega), nI_l (by omega)]
    unfold nzl
    rw [if_neg (lN_ne0 (by omega) (by omega)), show (232792560 : Int64) = lN 232792560 from rfl, pk_lDiv (by decide) (by omega) (by omega), lN_mul, lN_add]
theorem wN_le {k f l a b : Nat} (h : l ≤ f + 19) : wN k f l a b ≤ 20 * 232792560 := by
  have hD : wD f l a b ≤ 20 := by
    unfold wD
    split <;> omega
  have h6 : wD f l a b * (232792560 / (l - f + 1)) ≤ 20 * 232792560 := Nat.mul_le_mul hD (Nat.div_le_self _ _)
  have h5 : wD f l a b * (l - f + 1) ≤ 20 * 20 := Nat.mul_le_mul hD (by omega)
  unfold wN
  split
  · split <;> omega
  split
  · split <;> omega
  split
  · omega
  split
  · split <;> omega
  split
  · split <;> omega
  split
  · omega
  · exact h6
/-- the sums over a span, on both sides -/
theorem w_sum {X M : zSt} (hR : zR X M) {a b k : Nat} (hb : b ≤ 99) (hab : a ≤ b) (hk : k ≤ 6) : ∃ n : Nat, n ≤ 24 ∧ zI X 7 = nI n ∧ zI M 5 = nI n ∧ (∀ i, i < n → wl M i ≤ wf M i + 19) ∧ F_X9_sum X (nI a) (nI b) (nI k) = some (lN (sN (fun i => wN k (wf M i) (wl M i) a b) n)) ∧ F_X11_wardOf M (nI a) (nI b) (nI k) = some (lN (sN (fun i => wN k (wf M i) (wl M i) a b) n)) := by
  obtain ⟨-, -, -, -, ⟨n, h1, e1, e2, hb'⟩, -⟩ := hR
  have hd : ∀ i, i < n → ∃ f l : Nat, f = wf M i ∧ l = wl M i ∧ f ≤ l ∧ l ≤ 99 ∧ l ≤ f + 19 ∧ zA X 19 i = nI f ∧ zA M 11 i = nI f ∧ zA X 20 i = nI l ∧ zA M 12 i = nI l := fun i hi => by
    obtain ⟨f, l, q1, q2, q3, x1, x2, x3, x4⟩ := hb' i hi
    exact ⟨f, l, by unfold wf; rw [x2, nIN (by omega)], by unfold wl; rw [x4, nIN (by omega)], q1, q2, q3, x1, x2, x3, x4⟩
  refine ⟨n, h1, e1, e2, fun i hi => ?_, ?_, ?_⟩
  · obtain ⟨f, l, rfl, rfl, -, -, q, -⟩ := hd i hi
    exact q
  · unfold F_X9_sum
    simp only [lt]
    refine loopN (L := fun f (q : Int64 × Int32) => L_X9_sum_6 X (nI a) (nI b) (nI k) (fun w => some w) f q.1 q.2) (st := fun i => (lN (sN (fun i => wN k (wf M i) (wl M i) a b) i), nI i)) n _ (fun f => ?_) (fun f i hi => ?_) 1000 0 (by omega) (by omega)
    · show L_X9_sum_6 X (nI a) (nI b) (nI k) (fun w => some w) (f + 1) _ (nI n) = _
      rw [L_X9_sum_6, e1, if_pos Int32.le_rfl]
    · show L_X9_sum_6 X (nI a) (nI b) (nI k) (fun w => some w) (f + 1) (lN (sN (fun i => wN k (wf M i) (wl M i) a b) i)) (nI i) = L_X9_sum_6 X (nI a) (nI b) (nI k) (fun w => some w) f (lN (sN (fun i => wN k (wf M i) (wl M i) a b) i + wN k (wf M i) (wl M i) a b)) (nI (i + 1))
      obtain ⟨f', l', rfl, rfl, q1, q2, q3, x1, x2, x3, x4⟩ := hd i hi
      rw [L_X9_sum_6, e1, if_neg (nI_ge hi (by omega)), w_x (show i < 24 by omega) q1 q2 q3 hb hab hk x1 x3, Option.bind_some]
      simp only [lt, nI_1, lN_add]
  · unfold F_X11_wardOf
    simp only [lt]
    refine loopN (L := fun f (q : Int64 × Int32) => L_X11_wardOf_6 M (nI a) (nI b) (nI k) (fun w => some w) f q.1 q.2) (st := fun i => (lN (sN (fun i => wN k (wf M i) (wl M i) a b) i), nI i)) n _ (fun f => ?_) (fun f i hi => ?_) 1000 0 (by omega) (by omega)
    · show L_X11_wardOf_6 M (nI a) (nI b) (nI k) (fun w => some w) (f + 1) _ (nI n) = _
      rw [L_X11_wardOf_6, e2, if_pos Int32.le_rfl]
    · obtain ⟨f', l', rfl, rfl, q1, q2, q3, x1, x2, x3, x4⟩ := hd i hi
      exact w_step _ (by rw [e2]; exact nI_ge hi (by omega)) (by omega) q1 q2 q3 hb hab hk x2 x4
theorem p_noSpan (a1 a2 : Int32) : F_X10_isNoSpan a1 a2 = some (if (0 ≤ a1 ∧ a1 ≤ 99) ∧ (a1 ≤ a2 ∧ a2 ≤ 99) then 0 else 1) := by
  unfold F_X10_isNoSpan
  rw [p_out, Option.bind_some]
  by_cases h : 0 ≤ a1 ∧ a1 ≤ 99
  · rw [if_pos h, if_pos rfl, p_out, Option.bind_some]
    by_cases h2 : a1 ≤ a2 ∧ a2 ≤ 99
    · rw [if_pos h2, if_pos rfl, if_pos ⟨h, h2⟩]
    · rw [if_neg h2, if_neg i01, if_neg (fun q => h2 q.2)]
  · rw [if_neg h, if_neg i01, if_neg (fun q => h q.1)]
theorem p_isSpan (a1 a2 : Int32) : F_X11_isSpan a1 a2 = some (if (0 ≤ a1 ∧ a1 ≤ 99) ∧ (a1 ≤ a2 ∧ a2 ≤ 99) then 1 else 0) := by
  unfold F_X11_isSpan
  rw [p_in, Option.bind_some]
  by_cases h : 0 ≤ a1 ∧ a1 ≤ 99
  · rw [if_pos h, if_neg i01, p_in, Option.bind_some]
    by_cases h2 : a1 ≤ a2 ∧ a2 ≤ 99
    · rw [if_pos h2, if_neg i01, if_pos ⟨h, h2⟩]
    · rw [if_neg h2, if_pos rfl, if_neg (fun q => h2 q.2)]
  · rw [if_neg h, if_pos rfl, if_neg (fun q => h q.1)]
