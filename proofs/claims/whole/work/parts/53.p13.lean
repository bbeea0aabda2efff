-- which of two fractions is more
def agr (o1 o2 : Option Int32) : Prop := ∃ r1 r2 : Int32, o1 = some r1 ∧ o2 = some r2 ∧ (r1 = 0 ↔ r2 ≤ 0)
def fl (t : Bool) : Int32 := if t then 1 else 0
def sg (t : Bool) : Int32 := if t then -1 else 1
def kM : Int64 → Int64 → Int32 → Option Int32 := fun (w10_20 : Int64) (w14_20 : Int64) (w16_20 : Int32) =>
 if (lg_cmp w10_20 w14_20) = 0 then (some (0)) else
 (jn (fun (y0_158 : Int32) =>
 if y0_158 = w16_20 then (some (0)) else
 (some (1))) (fun j158 : Int32 → Option Int32 =>
 if (lg_cmp w10_20 (0)) = 0 then (j158 (1)) else
 (j158 (0))))
theorem kM_1 {a : Nat} (h : 0 < a) (h2 : a < 2 ^ 63) (t : Bool) : kM (lN 0) (lN a) (fl t) = some (if t then 0 else 1) := by
  unfold kM
  simp only [jn]
  rw [if_neg (fun q => by
    have := (pk_lEQ (by omega) h2).mp ((lg_eq _ _).mp q)
    omega), if_pos (show lg_cmp (lN 0) 0 = 0 by decide)]
  cases t <;> rfl
theorem kM_2 {a : Nat} (h : 0 < a) (h2 : a < 2 ^ 63) (t : Bool) : kM (lN a) (lN 0) (fl t) = some (if t then 1 else 0) := by
  unfold kM
  simp only [jn]
  rw [if_neg (fun q => by
    have := (pk_lEQ h2 (by omega)).mp ((lg_eq _ _).mp q)
    omega), if_neg (fun q => by
    have := (lN_eq0 h2).mp q
    omega)]
  cases t <;> rfl
theorem kM_0 (t : Bool) : kM (lN 0) (lN 0) (fl t) = some 0 := by
  unfold kM
  rw [if_pos (by decide)]
theorem is_end {k : Nat} {a b c d : Int64} {x i : Int32} (h : lg_cmp b 0 ≤ 0 ∨ lg_cmp d 0 ≤ 0) : L_X2_isMore_20 kM (k + 1) a b c d x i = kM b d x := by
  rw [L_X2_isMore_20]
  split
  · rfl
  · split
    · rfl
    · rw [if_pos (h.resolve_left ‹_›)]
theorem is_step {a b c d i f f' : Nat} (t : Bool) (ha : a < 2 ^ 63) (hb : b < 2 ^ 63) (hc : c < 2 ^ 63) (hd : d < 2 ^ 63) (b0 : 0 < b) (d0 : 0 < d) (hi : i < 200) (hf : 1 ≤ f) (rec : 0 < a % b → 0 < c % d → agr (L_X2_isMore_20 kM f (lN b) (lN (a % b)) (lN d) (lN (c % d)) (fl (!t)) (nI (i + 1))) (L_X11_way_17 f' (lN b) (lN (a % b)) (lN d) (lN (c % d)) (sg (!t)))) : agr (L_X2_isMore_20 kM (f + 1) (lN a) (lN b) (lN c) (lN d) (fl t) (nI i)) (L_X11_way_17 (f' + 1) (lN a) (lN b) (lN c) (lN d) (sg t)) := by
  have q1 : a / b ≤ a := Nat.div_le_self _ _
  have q2 : c / d ≤ c := Nat.div_le_self _ _
  have m1 : a % b < b := Nat.mod_lt _ b0
  have m2 : c % d < d := Nat.mod_lt _ d0
  rw [L_X2_isMore_20, L_X11_way_17, if_neg (show ¬ (200 : Int32) ≤ nI i from nI_ge (b := 200) hi (by decide)), if_neg (lN_gt0 b0 hb), if_neg (lN_gt0 d0 hd)]
  simp only [nzl, if_neg (lN_ne0 hb (by omega)), if_neg (lN_ne0 hd (by omega)), lt, pk_lRem ha b0 hb, pk_lRem hc d0 hd, pk_lDiv ha b0 hb, pk_lDiv hc d0 hd, nI_1]
  by_cases e : a / b = c / d
  · have z : lg_cmp (lN (a / b)) (lN (c / d)) = 0 := (lg_eq _ _).mpr (by rw [e])
    have w1 : lN a - lN (a / b) * lN b = lN (a % b) := by rw [← pk_lDiv ha b0 hb, pk_lRem ha b0 hb]
    have w2 : lN c - lN (c / d) * lN d = lN (c % d) := by rw [← pk_lDiv hc d0 hd, pk_lRem hc d0 hd]
    rw [if_pos z, if_pos z, w1, w2]
    have x : (if fl t = 0 then L_X2_isMore_20 kM f (lN b) (lN (a % b)) (lN d) (lN (c % d)) 1 (nI (i + 1)) else L_X2_isMore_20 kM f (lN b) (lN (a % b)) (lN d) (lN (c % d)) 0 (nI (i + 1))) = L_X2_isMore_20 kM f (lN b) (lN (a % b)) (lN d) (lN (c % d)) (fl (!t)) (nI (i + 1)) := by cases t <;> rfl
    rw [x, show -sg t = sg (!t) by cases t <;> rfl]
    simp only [jn]
    obtain ⟨f, rfl⟩ : ∃ g, f = g + 1 := ⟨f - 1, by omega⟩
    by_cases z1 : a % b = 0
    · rw [is_end (Or.inl ((lN_le0 (by omega)).mpr z1)), if_pos ((lN_eq0 (by omega)).mpr z1)]
      by_cases z2 : c % d = 0
      · rw [z1, z2, kM_0, if_pos (by decide)]
        exact ⟨_, _, rfl, rfl, by decide⟩
      · rw [z1, kM_1 (by omega) (by omega), if_neg (show ¬ lg_cmp (lN 0) (lN (c % d)) = 0 from fun q => by
          have := (pk_lEQ (by omega) (by omega)).mp ((lg_eq _ _).mp q)
          omega), if_pos (show lg_cmp (lN 0) 0 ≤ 0 by decide)]
        refine ⟨_, _, rfl, rfl, ?_⟩
        cases t <;> decide
    · rw [if_neg (fun q => z1 ((lN_eq0 (by omega)).mp q))]
      by_cases z2 : c % d = 0
      · rw [is_end (Or.inr ((lN_le0 (by omega)).mpr z2)), if_pos ((lN_eq0 (by omega)).mpr z2), z2, kM_2 (by omega) (by omega), if_neg (show ¬ lg_cmp (lN (a % b)) (lN 0) = 0 from fun q => by
          have := (pk_lEQ (by omega) (by omega)).mp ((lg_eq _ _).mp q)
          omega), if_neg (lN_gt0 (by omega) (by omega))]
        refine ⟨_, _, rfl, rfl, ?_⟩
        cases t <;> decide
      · rw [if_neg (fun q => z2 ((lN_eq0 (by omega)).mp q))]
        exact rec (by omega) (by omega)
  · have z : ¬ lg_cmp (lN (a / b)) (lN (c / d)) = 0 := fun q => e ((pk_lEQ (by omega) (by omega)).mp ((lg_eq _ _).mp q))
    rw [if_neg z, if_neg z]
    simp only [jn]
    by_cases y : lg_cmp (lN (a / b)) (lN (c / d)) ≤ 0
    · rw [if_pos y, if_pos y]
      refine ⟨if 0 = fl t then 0 else 1, _, by split <;> rfl, rfl, ?_⟩
      cases t <;> decide
    · rw [if_neg y, if_neg y]
      refine ⟨if 1 = fl t then 0 else 1, _, by split <;> rfl, rfl, ?_⟩
      cases t <;> decide
theorem is_go : ∀ (k a b c d i f f' : Nat) (t : Bool), a * b < 2 ^ k → b ≤ a → a < 2 ^ 63 → c < 2 ^ 63 → d < 2 ^ 63 → 0 < b → 0 < d → i + k ≤ 200 → k < f → k < f' → agr (L_X2_isMore_20 kM f (lN a) (lN b) (lN c) (lN d) (fl t) (nI i)) (L_X11_way_17 f' (lN a) (lN b) (lN c) (lN d) (sg t))
  | 0, a, b, c, d, i, f, f', t, h1, h2, ha, hc, hd, b0, d0, hi, hf, hf' => by
    have : 0 < a * b := Nat.mul_pos (by omega) b0
    omega
  | k + 1, a, b, c, d, i, f, f', t, h1, h2, ha, hc, hd, b0, d0, hi, hf, hf' => by
    obtain ⟨f, rfl⟩ : ∃ g, f = g + 1 := ⟨f - 1, by omega⟩
    obtain ⟨f', rfl⟩ : ∃ g, f' = g + 1 := ⟨f' - 1, by omega⟩
    have m1 : a % b < b := Nat.mod_lt _ b0
    have m2 : c % d < d := Nat.mod_lt _ d0
    have m3 : a % b + b ≤ a := by
      have e := Nat.div_add_mod a b
      have : b * 1 ≤ b * (a / b) := Nat.mul_le_mul_left _ (Nat.div_pos h2 b0)
      omega
    refine is_step t ha (by omega) hc hd b0 d0 (by omega) (by omega) (fun r1 r2 => is_go k b (a % b) d (c % d) (i + 1) f f' (!t) ?_ (by omega) (by omega) (by omega) (by omega) r1 r2 (by omega) (by omega) (by omega))
    have h3 : b * (a % b + a % b) ≤ b * a := Nat.mul_le_mul_left _ (by omega)
    rw [Nat.mul_add, Nat.mul_comm b a] at h3
    rw [Nat.pow_succ] at h1
    omega
theorem is_more {a b c d : Nat} (ha : a < 2 ^ 62) (hb : b < 2 ^ 62) (hc : c < 2 ^ 62) (hd : d < 2 ^ 62) (b0 : 0 < b) (d0 : 0 < d) : agr (F_X2_isMore (lN a) (lN b) (lN c) (lN d)) (F_X11_way (lN a) (lN b) (lN c) (lN d)) := by
  have e1 : F_X2_isMore (lN a) (lN b) (lN c) (lN d) = L_X2_isMore_20 kM (999 + 1) (lN a) (lN b) (lN c) (lN d) (fl false) (nI 0) := by
    unfold F_X2_isMore
    simp only [lt]
    rfl
  have e2 : F_X11_way (lN a) (lN b) (lN c) (lN d) = L_X11_way_17 (999 + 1) (lN a) (lN b) (lN c) (lN d) (sg false) := by
    unfold F_X11_way
    simp only [lt]
    rfl
  rw [e1, e2]
  have m1 : a % b < b := Nat.mod_lt _ b0
  have m2 : c % d < d := Nat.mod_lt _ d0
  refine is_step false (by omega) (by omega) (by omega) (by omega) b0 d0 (by omega) (by omega) (fun r1 r2 => is_go 124 b (a % b) d (c % d) 1 999 999 true ?_ (by omega) (by omega) (by omega) (by omega) r1 r2 (by omega) (by omega) (by omega))
  have : b * (a % b) ≤ b * b := Nat.mul_le_mul_left _ (by omega)
  have : b * b < 2 ^ 62 * 2 ^ 62 := Nat.mul_lt_mul'' hb hb
  rw [← Nat.pow_add] at this
  omega
theorem l_go {X M : zSt} (hR : zR X M) {n : Nat} (hn : n ≤ 40) (hc : cN (sco M) n ≤ 8) (h1 : F_X7_counting X = some (nI (cN (sco M) n))) (hS : ∀ i, i < 8 → F_X7_saying X (nI (i + 1)) = some (nI (sv M n i)) ∧ F_X11_saidOf M (nI (i + 1)) = some (nI (sv M n i))) : ∀ (m t : Nat) (v : Int32) (A B f f' : Nat), t + m = 4 → A < 2 ^ 62 → 0 < B → B < 2 ^ 62 → m < f → m < f' → ∃ r, L_X1_likeliestTown_10 X (fun w => some w) f v (lN A) (lN B) (nI t) = some r ∧ L_X11_likeliestNow_25 M (nI (cN (sco M) n)) (fun w => some w) f' v (lN A) (lN B) (nI t) = some r
  | 0, t, v, A, B, f, f', ht, hA, B0, hB, hf, hf' => by
    obtain ⟨f, rfl⟩ : ∃ g, f = g + 1 := ⟨f - 1, by omega⟩
    obtain ⟨f', rfl⟩ : ∃ g, f' = g + 1 := ⟨f' - 1, by omega⟩
    obtain rfl : t = 4 := by omega
    rw [L_X1_likeliestTown_10, L_X11_likeliestNow_25, if_pos (by decide), if_pos (by decide)]
    exact ⟨_, rfl, rfl⟩
  | m + 1, t, v, A, B, f, f', ht, hA, B0, hB, hf, hf' => by
    obtain ⟨f, rfl⟩ : ∃ g, f = g + 1 := ⟨f - 1, by omega⟩
    obtain ⟨f', rfl⟩ : ∃ g, f' = g + 1 := ⟨f' - 1, by omega⟩
    have t4 : t < 4 := by omega
    have ih := fun v A B => l_go hR hn hc h1 hS m (t + 1) v A B f f' (by omega)
    have b := cT_le hR t4
    have b1 := fit_le hR t4 hc
    have b2 := ch_b b hc
    obtain ⟨x1, x2⟩ := c_ch hR t4
    obtain ⟨y1, y2⟩ := c_fit hR t4 hc hS
    rw [L_X1_likeliestTown_10, L_X11_likeliestNow_25]
    unfold F_X1_hasFewer F_X1_choices
    rw [if_neg (show ¬ (4 : Int32) ≤ nI t from nI_ge (b := 4) t4 (by decide)), if_neg (show ¬ (4 : Int32) ≤ nI t from nI_ge (b := 4) t4 (by decide)), x1, x2, h1, y1, y2]
    simp only [Option.bind_some, lt, nI_1]
    rw [ch_x b hc, ch_m b hc]
    simp only [Option.bind_some]
    by_cases hd : cN (sco M) n ≤ cT M t
    · have p := ch_pos _ _ hd
      rw [if_pos (nI_le hd (by omega)), Option.bind_some, if_pos rfl, if_neg (lN_gt0 p (by omega))]
      obtain ⟨r1, r2, z1, z2, z3⟩ := is_more b1 (show ch (cT M t) (cN (sco M) n) < 2 ^ 62 by omega) hA hB p B0
      rw [z1, z2]
      simp only [Option.bind_some]
      by_cases q : r1 = 0
      · rw [if_pos q, if_pos (z3.mp q)]
        exact ih v A B hA B0 hB (by omega) (by omega)
      · rw [if_neg q, if_neg (fun y => q (z3.mpr y))]
        exact ih _ _ _ b1 p (by omega) (by omega) (by omega)
    · rw [if_neg (nI_ge (by omega) (by omega)), Option.bind_some, if_neg i01, ch_none _ _ (by omega), if_pos (by decide)]
      exact ih v A B hA B0 hB (by omega) (by omega)
theorem l_all {X M : zSt} (hR : zR X M) : ∃ r, F_X10_likeliest X = some r ∧ F_X11_likeliestNow M = some r := by
  obtain ⟨n, hn, -, h1, h2, h3, -⟩ := g_all hR
  have c1 := cN_le (sco M) n
  unfold F_X10_likeliest F_X11_likeliestNow F_X1_likeliestTown
  rw [h1, h2]
  simp only [Option.bind_some, lt]
  by_cases hc : cN (sco M) n ≤ 8
  · rw [if_pos (show nI (cN (sco M) n) ≤ 8 from nI_le (b := 8) hc (by decide)), if_pos (show nI (cN (sco M) n) ≤ 8 from nI_le (b := 8) hc (by decide))]
    obtain ⟨r, r1, r2⟩ := l_go hR hn hc h1 (fun i hi => ⟨(h3 i hi).1, (h3 i hi).2.1⟩) 4 0 (-1) 0 1 1000 1000 (by omega) (by omega) (by omega) (by omega) (by omega) (by omega)
    rw [show lN 0 = 0 from rfl, show lN 1 = 1 from rfl, show nI 0 = 0 from rfl] at r1 r2
    rw [r1, r2]
    exact ⟨r, rfl, rfl⟩
  · rw [if_neg (show ¬ nI (cN (sco M) n) ≤ 8 from nI_ge (a := 8) (by omega) (by omega)), if_neg (show ¬ nI (cN (sco M) n) ≤ 8 from nI_ge (a := 8) (by omega) (by omega))]
    exact ⟨_, rfl, rfl⟩
theorem a_likeliest : ag_likeliest zR := by
  intro SX SM hR
  obtain ⟨r, r1, r2⟩ := l_all hR
  refine ⟨r, r1, ?_⟩
  unfold F_X11_likeliest
  rw [r2]
  rfl
