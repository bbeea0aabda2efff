theorem lg_pos (x y : Int64) : 0 < lg_cmp x y ↔ y < x := by
  unfold lg_cmp
  by_cases h : x > y
  · rw [if_pos h]; exact ⟨fun _ => h, fun _ => by decide⟩
  · rw [if_neg h]
    by_cases h2 : x = y
    · rw [if_pos h2]; exact ⟨fun q => absurd q (by decide), fun q => absurd q h⟩
    · rw [if_neg h2]; exact ⟨fun q => absurd q (by decide), fun q => absurd q h⟩
theorem lg_le (x y : Int64) : lg_cmp x y ≤ 0 ↔ ¬ y < x := by
  rw [← lg_pos]
  exact Int32.not_lt.symm
theorem lg_eq (x y : Int64) : lg_cmp x y = 0 ↔ x = y := by
  unfold lg_cmp
  by_cases h : x > y
  · rw [if_pos h]; exact ⟨fun q => absurd q (by decide), fun q => absurd h (by rw [q]; exact fun q2 => Int64.lt_irrefl q2)⟩
  · rw [if_neg h]
    by_cases h2 : x = y
    · rw [if_pos h2]; exact ⟨fun _ => h2, fun _ => rfl⟩
    · rw [if_neg h2]; exact ⟨fun q => absurd q (by decide), fun q => absurd q h2⟩
theorem nI_m1 {n : Nat} (h : n < 2 ^ 31) : ¬ nI n = -1 := by
  intro q
  have q2 := congrArg Int32.toInt q
  rw [nI_toInt h] at q2
  have : (-1 : Int32).toInt = -1 := by decide
  omega
def itS (f : Nat → zSt → zSt) (S : zSt) : Nat → zSt
  | 0 => S
  | i + 1 => f i (itS f S i)
theorem h_meets {X M : zSt} (hR : zR X M) (v : Int32) : zR (sI X 9 v) (sI M 7 v) := zR_H (eS_I (eS_r _ _ _ X) 9 _ (by decide)) (eS_I (eS_r _ _ _ M) 7 _ (by decide)) hR ⟨rfl, hR.2.2.2.2.2.2.2.2⟩
theorem p_isSheet (a : Int32) : F_X11_isSheet a = some (if 0 ≤ a ∧ a ≤ 3 then 1 else 0) := by
  unfold F_X11_isSheet
  rw [p_in, Option.bind_some]
  by_cases h : 0 ≤ a ∧ a ≤ 3
  · rw [if_pos h]; rfl
  · rw [if_neg h]; rfl
theorem p_lost0 {X : zSt} {s : Nat} (hs : s < 4) (h : zA X 25 s = -1) : F_X5_isLost X (nI s) = some 1 := by
  unfold F_X5_isLost
  rw [ibd_nI hs (by decide), nIN (by omega), h, if_pos rfl]
theorem p_lost1 {X : zSt} {s n : Nat} (hs : s < 4) (h : zA X 25 s = nI n) (hn : n ≤ 60) : F_X5_isLost X (nI s) = some 0 := by
  unfold F_X5_isLost
  rw [ibd_nI hs (by decide), nIN (by omega), h, if_neg (nI_m1 (by omega))]
/-- what is wanting of an item, on both sides -/
theorem h_lack {X M : zSt} (hR : zR X M) {s : Nat} (hs : s < 4) (a2 a3 : Int32) : ∃ v : Nat, v ≤ 3 ∧ F_X5_faultOf X (nI s) a2 a3 = some (nI v) ∧ F_X11_lacks M (nI s) a2 a3 = some (nI v) ∧ (v = 0 → ∃ n f i : Nat, n ≤ 60 ∧ f ≤ 2 ∧ i < n ∧ a3 = nI i ∧ zA X 25 s = nI n ∧ zA M 15 s = 1 ∧ zA M 17 s = nI n ∧ zA X 24 s = nI f ∧ zA M 16 s = nI f ∧ ∀ i, i < n → zA X (42 + s) i = zA M 18 (60 * s + i)) := by
  unfold F_X5_faultOf F_X11_lacks
  rcases hR.2.2.2.2.2.2.2.2 s hs with ⟨h1, h2⟩ | ⟨n, f, hn, hf, x1, x2, x3, x4, x5, x6⟩
  · rw [p_lost0 hs h1, Option.bind_some, if_neg i01, ibd_nI hs (by decide), nIN (by omega), h2, if_pos rfl]
    exact ⟨1, by omega, rfl, rfl, fun q => by omega⟩
  · rw [p_lost1 hs x1 hn, Option.bind_some, if_pos rfl, ibd_nI hs (by decide), ibd_nI hs (by decide), nIN (by omega), x2, if_neg i01, ibd_nI hs (by decide), x4, x5]
    by_cases h : nI f = a2
    · rw [if_pos h, if_pos h, ibd_nI hs (by decide), ibd_nI hs (by decide), x1, x3, p_out, p_in, Option.bind_some, Option.bind_some]
      by_cases h2 : (0 : Int32) ≤ a3 ∧ a3 ≤ nI n - 1
      · rw [if_pos h2, if_pos h2, if_pos rfl, if_neg i01]
        have hn0 : n ≠ 0 := by
          rintro rfl
          exact absurd (Int32.le_trans h2.1 h2.2) (by decide)
        have en : nI n - 1 = nI (n - 1) := pk_sub (a := n) (b := 1) (by omega)
        rw [en] at h2
        obtain ⟨i, -, hi, rfl⟩ := rng 0 (n - 1) rfl rfl (by omega) (by decide) h2
        exact ⟨0, by omega, rfl, rfl, fun _ => ⟨n, f, i, hn, hf, by omega, rfl, rfl, rfl, rfl, rfl, rfl, x6⟩⟩
      · rw [if_neg h2, if_neg h2, if_neg i01, if_pos rfl]
        exact ⟨2, by omega, rfl, rfl, fun q => by omega⟩
    · rw [if_neg h, if_neg h]
      exact ⟨3, by omega, by first | rfl | (rw [ibd_nI hs (by decide)]; rfl), by first | rfl | (rw [ibd_nI hs (by decide)]; rfl), fun q => by omega⟩
theorem e60 {s i : Nat} : (60 : Int32) * nI s + nI i = nI (60 * s + i) := by
  rw [show (60 : Int32) = nI 60 from rfl, pk_mul, nI_add]
theorem h_up {X M : zSt} (hR : zR X M) {s n f i : Nat} (hs : s < 4) (hn : n ≤ 60) (hf : f ≤ 2) (hi : i < n) (x1 : zA X 25 s = nI n) (x2 : zA M 15 s = 1) (x3 : zA M 17 s = nI n) (x4 : zA X 24 s = nI f) (x5 : zA M 16 s = nI f) (x6 : ∀ i, i < n → zA X (42 + s) i = zA M 18 (60 * s + i)) (w : Int32) : zR (sA X (42 + s) (upd (zA X (42 + s)) i w)) (sA M 18 (upd (zA M 18) (60 * s + i) w)) := by
  refine zR_H (eS_A (eS_r _ _ _ X) (42 + s) _ (by simp; omega)) (eS_A (eS_r _ _ _ M) 18 _ (by decide)) hR ⟨hR.2.2.2.2.2.2.2.1, fun s' hs' => ?_⟩
  have old := hR.2.2.2.2.2.2.2.2 s' hs'
  simp only [zA_sA, if_true, show ∀ q, ¬ ((25 : Nat) = 42 + q) from fun q => by omega, show ∀ q, ¬ ((24 : Nat) = 42 + q) from fun q => by omega, show ¬ (15 : Nat) = 18 by decide, show ¬ (16 : Nat) = 18 by decide, show ¬ (17 : Nat) = 18 by decide, if_false]
  by_cases hss : s' = s
  · subst hss
    rcases old with ⟨h1, h2⟩ | ⟨n', f', y0, y1, y2, y3, y4, y5, y6, y7⟩
    · exact Or.inl ⟨h1, h2⟩
    · refine Or.inr ⟨n', f', y0, y1, y2, y3, y4, y5, y6, fun k hk => ?_⟩
      rw [if_pos rfl]
      by_cases hki : k = i
      · subst hki; rw [upd_s, upd_s]
      · rw [upd_n _ _ hki, upd_n _ _ (by omega)]
        exact y7 k hk
  · rcases old with ⟨h1, h2⟩ | ⟨n', f', y0, y1, y2, y3, y4, y5, y6, y7⟩
    · exact Or.inl ⟨h1, h2⟩
    · refine Or.inr ⟨n', f', y0, y1, y2, y3, y4, y5, y6, fun k hk => ?_⟩
      rw [if_neg (by omega), upd_n _ _ (by omega)]
      exact y7 k hk
theorem h_set {X M : zSt} (hR : zR X M) {s n f i : Nat} (hs : s < 4) (hn : n ≤ 60) (hf : f ≤ 2) (hi : i < n) (x1 : zA X 25 s = nI n) (x2 : zA M 15 s = 1) (x3 : zA M 17 s = nI n) (x4 : zA X 24 s = nI f) (x5 : zA M 16 s = nI f) (x6 : ∀ i, i < n → zA X (42 + s) i = zA M 18 (60 * s + i)) (v : Int32) : ∃ w : Int32, F_X5_setItem X (nI s) (nI i) v = some (sA X (42 + s) (upd (zA X (42 + s)) i w)) ∧ F_X11_keep M (nI s) (nI i) v = some (sA M 18 (upd (zA M 18) (60 * s + i) w)) := by
  unfold F_X5_setItem F_X11_keep
  rw [e60]
  simp only [ibd_nI hs (show 4 < 2 ^ 31 by decide), ibd_nI (show i < 60 by omega) (show 60 < 2 ^ 31 by decide), ibd_nI (show 60 * s + i < 240 by omega) (show 240 < 2 ^ 31 by decide), nIN (show s < 2 ^ 31 by omega), nIN (show i < 2 ^ 31 by omega), nIN (show 60 * s + i < 2 ^ 31 by omega), x4, x5, lt]
  by_cases h0 : nI f = 0
  · rw [if_pos h0, if_pos h0]; exact ⟨_, rfl, rfl⟩
  · rw [if_neg h0, if_neg h0]
    by_cases h1 : nI f = 1
    · rw [if_pos h1, if_pos h1]; exact ⟨_, rfl, rfl⟩
    · rw [if_neg h1, if_neg h1]; exact ⟨_, rfl, rfl⟩
theorem nI_le0 {v : Nat} (h : v < 2 ^ 31) : nI v ≤ 0 ↔ v = 0 := by
  rw [show (0 : Int32) = nI 0 from rfl, nI_leI h (by decide)]
  omega
theorem nI_eq0 {v : Nat} (h : v < 2 ^ 31) : nI v = 0 ↔ v = 0 := by
  rw [show (0 : Int32) = nI 0 from rfl, nI_eq h (by decide)]
theorem a_put : ag_put zR := by
  intro SX SM a1 a2 a3 a4 hR
  unfold F_X10_put F_X11_put
  rw [p_out, p_isSheet]
  by_cases h : (0 : Int32) ≤ a1 ∧ a1 ≤ 3
  · obtain ⟨s, -, hs, rfl⟩ := rng 0 3 rfl rfl (by decide) (by decide) h
    rw [if_pos h, if_pos h, Option.bind_some, Option.bind_some, if_pos rfl, if_neg i01, p_out, p_in]
    by_cases h2 : (0 : Int32) ≤ a2 ∧ a2 ≤ 2
    · rw [if_pos h2, if_pos h2, Option.bind_some, Option.bind_some, if_pos rfl, if_neg i01]
      obtain ⟨v, hv, q1, q2, q3⟩ := h_lack hR (s := s) (by omega) a2 a3
      rw [q1, q2, Option.bind_some, Option.bind_some]
      simp only [lt]
      by_cases hv0 : v = 0
      · obtain ⟨n, f, i, hn, hf, hi, rfl, x1, x2, x3, x4, x5, x6⟩ := q3 hv0
        rw [if_pos ((nI_eq0 (by omega)).mpr hv0), if_pos ((nI_le0 (by omega)).mpr hv0)]
        obtain ⟨w, w1, w2⟩ := h_set hR (by omega) hn hf hi x1 x2 x3 x4 x5 x6 a4
        rw [w1, w2]
        exact ⟨_, _, _, rfl, rfl, h_up hR (by omega) hn hf hi x1 x2 x3 x4 x5 x6 w⟩
      · rw [if_neg (fun q => hv0 ((nI_eq0 (by omega)).mp q)), if_neg (fun q => hv0 ((nI_le0 (by omega)).mp q))]
        exact ⟨_, _, _, rfl, rfl, h_meets hR _⟩
    · rw [if_neg h2, if_neg h2, Option.bind_some, Option.bind_some, if_neg i01, if_pos rfl]
      exact ⟨_, _, _, rfl, rfl, hR⟩
  · rw [if_neg h, if_neg h, Option.bind_some, Option.bind_some, if_neg i01, if_pos rfl]
    exact ⟨_, _, _, rfl, rfl, hR⟩
theorem a_get : ag_get zR := by
  intro SX SM a1 a2 a3 hR
  unfold F_X10_get F_X11_get
  rw [p_out, p_isSheet]
  by_cases h : (0 : Int32) ≤ a1 ∧ a1 ≤ 3
  · obtain ⟨s, -, hs, rfl⟩ := rng 0 3 rfl rfl (by decide) (by decide) h
    rw [if_pos h, if_pos h, Option.bind_some, Option.bind_some, if_pos rfl, if_neg i01, p_out, p_in]
    by_cases h2 : (0 : Int32) ≤ a2 ∧ a2 ≤ 2
    · rw [if_pos h2, if_pos h2, Option.bind_some, Option.bind_some, if_pos rfl, if_neg i01]
      obtain ⟨v, hv, q1, q2, q3⟩ := h_lack hR (s := s) (by omega) a2 a3
      rw [q1, q2, Option.bind_some, Option.bind_some]
      simp only [lt]
      by_cases hv0 : v = 0
      · obtain ⟨n, f, i, hn, hf, hi, rfl, x1, x2, x3, x4, x5, x6⟩ := q3 hv0
        rw [if_pos ((nI_eq0 (by omega)).mpr hv0), if_pos ((nI_le0 (by omega)).mpr hv0), e60, ibd_nI (show 60 * s + i < 240 by omega) (by decide)]
        unfold F_X5_itemAt
        rw [ibd_nI (show s < 4 by omega) (by decide), ibd_nI (show i < 60 by omega) (by decide), nIN (by omega), nIN (by omega), nIN (by omega), x6 i hi]
        exact ⟨_, _, _, rfl, rfl, hR⟩
      · rw [if_neg (fun q => hv0 ((nI_eq0 (by omega)).mp q)), if_neg (fun q => hv0 ((nI_le0 (by omega)).mp q))]
        exact ⟨_, _, _, rfl, rfl, h_meets hR _⟩
    · rw [if_neg h2, if_neg h2, Option.bind_some, Option.bind_some, if_neg i01, if_pos rfl]
      exact ⟨_, _, _, rfl, rfl, hR⟩
  · rw [if_neg h, if_neg h, Option.bind_some, Option.bind_some, if_neg i01, if_pos rfl]
    exact ⟨_, _, _, rfl, rfl, hR⟩
theorem a_lose : ag_lose zR := by
  intro SX SM a1 hR
  unfold F_X10_lose F_X11_lose
  rw [p_out, p_isSheet]
  by_cases h : (0 : Int32) ≤ a1 ∧ a1 ≤ 3
  · obtain ⟨s, -, hs, rfl⟩ := rng 0 3 rfl rfl (by decide) (by decide) h
    have hs4 : s < 4 := by omega
    rw [if_pos h, if_pos h, Option.bind_some, Option.bind_some, if_pos rfl, if_neg i01, ibd_nI hs4 (by decide), nIN (by omega)]
    rcases hR.2.2.2.2.2.2.2.2 s hs4 with ⟨h1, h2⟩ | ⟨n, f, hn, hf, x1, x2, x3, x4, x5, x6⟩
    · rw [p_lost0 hs4 h1, Option.bind_some, if_neg i01, h2, if_pos rfl]
      exact ⟨_, _, _, rfl, rfl, h_meets hR _⟩
    · rw [p_lost1 hs4 x1 hn, Option.bind_some, if_pos rfl, x2, if_neg i01, ibd_nI hs4 (by decide)]
      unfold F_X5_drop
      simp only [ibd_nI hs4 (show 4 < 2 ^ 31 by decide), nIN (show s < 2 ^ 31 by omega), lt, b2_some, zA_sA, show ¬ (17 : Nat) = 15 by decide, if_false, x1, x3]
      refine ⟨_, _, _, rfl, rfl, zR_H (eS_A (eS_r _ _ _ SX) 25 _ (by decide)) (eS_A (eS_r _ _ _ SM) 15 _ (by decide)) hR ⟨hR.2.2.2.2.2.2.2.1, fun s' hs' => ?_⟩⟩
      by_cases hss : s' = s
      · subst hss
        exact Or.inl ⟨upd_s _ _ _, upd_s _ _ _⟩
      · rcases hR.2.2.2.2.2.2.2.2 s' hs' with ⟨h1, h2⟩ | ⟨n', f', y0, y1, y2, y3, y4, y5, y6, y7⟩
        · exact Or.inl ⟨(upd_n _ _ hss).trans h1, (upd_n _ _ hss).trans h2⟩
        · refine Or.inr ⟨n', f', y0, y1, (upd_n _ _ hss).trans y2, (upd_n _ _ hss).trans y3, y4, y5, y6, fun k hk => ?_⟩
          rw [zA_sA, if_neg (by omega)]
          exact y7 k hk
  · rw [if_neg h, if_neg h, Option.bind_some, Option.bind_some, if_neg i01, if_pos rfl]
    exact ⟨_, _, _, rfl, rfl, hR⟩
