-- write and count
theorem gB_f {X X1 M M1 : zSt} {w W : Nat} (hX : zL X1 11 = zL X 11) (hM : zA M1 3 = zA M 3) (g : gB X M w W) : gB X1 M1 w W := by
  unfold gB F_X6_minutesOf F_X11_isBus at *
  rw [hX, hM]
  exact g
theorem w_go {w W s n f : Nat} (hw : w ≤ 2) (hs : s < 4) (hn : n ≤ 60) (hf : f ≤ 2) (hx : ∃ j, j < 60 ∧ bt W j = 1) : ∀ (m i : Nat) (X M : zSt), zR X M → gB X M w W → i + m = n → zA X 25 s = nI n → zA M 15 s = 1 → zA M 17 s = nI n → zA X 24 s = nI f → zA M 16 s = nI f → (∀ i, i < n → zA X (42 + s) i = zA M 18 (60 * s + i)) → ∀ u u', m < u → m < u' → ∃ (X1 M1 : zSt), L_X10_write_67 (nI w) (nI s) (nI n) (fun S => some (nI n, S)) u X (nI i) = some (nI n, X1) ∧ L_X11_write_47 (nI w) (nI s) (fun S v => some (v, S)) u' M (nI i) = some (nI n, M1) ∧ zR X1 M1 := by
  intro m
  induction m with
  | zero =>
    intro i X M hR g hi x1 x2 x3 x4 x5 x6 u u' hu hu'
    obtain ⟨u, rfl⟩ : ∃ a, u = a + 1 := ⟨u - 1, by omega⟩
    obtain ⟨u', rfl⟩ : ∃ a, u' = a + 1 := ⟨u' - 1, by omega⟩
    have e : i = n := by omega
    subst e
    rw [L_X10_write_67, L_X11_write_47, if_pos Int32.le_rfl, ibd_nI hs (by decide), nIN (by omega), x3, if_pos Int32.le_rfl]
    exact ⟨_, _, rfl, rfl, hR⟩
  | succ m ih =>
    intro i X M hR g hi x1 x2 x3 x4 x5 x6 u u' hu hu'
    obtain ⟨u, rfl⟩ : ∃ a, u = a + 1 := ⟨u - 1, by omega⟩
    obtain ⟨u', rfl⟩ : ∃ a, u' = a + 1 := ⟨u' - 1, by omega⟩
    have hin : i < n := by omega
    obtain ⟨v, e1, e2⟩ := h_set hR hs hn hf hin x1 x2 x3 x4 x5 x6 (nI (wt W i))
    rw [L_X10_write_67, L_X11_write_47, if_neg (nI_ge hin (by omega)), ibd_nI hs (by decide), nIN (by omega), x3, if_neg (nI_ge hin (by omega)), if_neg (show ¬ (60 : Int32) ≤ nI i from nI_ge (b := 60) (by omega) (by decide)), e_wX g (by omega), e_wM g (by omega) hx, Option.bind_some, Option.bind_some, e1, e2, Option.bind_some, Option.bind_some]
    simp only [lt, nI_1]
    refine ih (i + 1) _ _ (h_up hR hs hn hf hin x1 x2 x3 x4 x5 x6 v) (gB_f rfl ?_ g) (by omega) ?_ ?_ ?_ ?_ ?_ (fun q hq => ?_) u u' (by omega) (by omega)
    · rw [zA_sA, if_neg (by decide)]
    · rw [zA_sA, if_neg (by omega)]; exact x1
    · rw [zA_sA, if_neg (by decide)]; exact x2
    · rw [zA_sA, if_neg (by decide)]; exact x3
    · rw [zA_sA, if_neg (by omega)]; exact x4
    · rw [zA_sA, if_neg (by decide)]; exact x5
    · rw [zA_sA, if_pos rfl, zA_sA, if_pos rfl]
      by_cases h : q = i
      · rw [h, upd_s, upd_s]
      · rw [upd_n _ _ h, upd_n _ _ (by omega)]
        exact x6 q hq
theorem a_write : ag_write zR := by
  intro X M a1 a2 hR
  unfold F_X10_write F_X11_write
  rw [p_out, p_in]
  by_cases h : (0 : Int32) ≤ a1 ∧ a1 ≤ 2
  · obtain ⟨w, -, hw, rfl⟩ := rng 0 2 rfl rfl (by decide) (by decide) h
    rw [if_pos h, if_pos h, Option.bind_some, Option.bind_some, if_pos rfl, if_neg i01, p_out, p_isSheet]
    by_cases h2 : (0 : Int32) ≤ a2 ∧ a2 ≤ 3
    · obtain ⟨s, -, hs, rfl⟩ := rng 0 3 rfl rfl (by decide) (by decide) h2
      have hs4 : s < 4 := by omega
      rw [if_pos h2, if_pos h2, Option.bind_some, Option.bind_some, if_pos rfl, if_neg i01, ibd_nI hs4 (by decide), nIN (by omega)]
      rcases hR.2.2.2.2.2.2.2.2 s hs4 with ⟨g1, g2⟩ | ⟨n', f', y0, y1, y2, y3, y4, y5, y6, y7⟩
      · rw [p_lost0 hs4 g1, Option.bind_some, if_neg i01, g2, if_pos rfl]
        exact ⟨_, _, _, rfl, rfl, h_meets hR _⟩
      · rw [p_lost1 hs4 y2 y0, Option.bind_some, if_pos rfl, y3, if_neg i01]
        obtain ⟨W, g⟩ := e_gB hR.2.1 hw
        have hc := c_le W
        rw [e_cX g, e_cM g, Option.bind_some, Option.bind_some]
        by_cases z : sN (bt W) 60 = 0
        · rw [z, if_pos nI_0, if_pos nI_0]
          exact ⟨_, _, _, rfl, rfl, hR⟩
        · rw [if_neg (nI_ne0 (by omega) (by omega)), if_neg (nI_ne0 (by omega) (by omega))]
          unfold F_X5_itemsOf
          rw [ibd_nI hs4 (by decide), nIN (by omega), y2, Option.bind_some]
          obtain ⟨X1, M1, e1, e2, R⟩ := w_go hw hs4 y0 y1 (c_ex z) n' 0 X M hR g (by omega) y2 y3 y4 y5 y6 y7 1000 1000 (by omega) (by omega)
          exact ⟨nI n', X1, M1, (lt_eq _ _).trans ((lt_eq _ _).trans e1), (lt_eq _ _).trans e2, R⟩
    · rw [if_neg h2, if_neg h2, Option.bind_some, Option.bind_some, if_neg i01, if_pos rfl]
      exact ⟨_, _, _, rfl, rfl, hR⟩
  · rw [if_neg h, if_neg h, Option.bind_some, Option.bind_some, if_neg i01, if_pos rfl]
    exact ⟨_, _, _, rfl, rfl, hR⟩
theorem c_fr {X M : zSt} {h : Nat → Nat} (g : gH X M h) : F_X11_friendships M = some (nI (sN (fun p => on (h p)) 8) / 2) := by
  refine (F_X11_friendships.eq_1 M).trans ?_
  refine (lt_eq _ _).trans ?_
  refine (lt_eq _ _).trans ?_
  refine loopN (L := fun f (q : Int32 × Int32) => L_X11_friendships_4 M (fun w => nz 2 (some (w / 2))) f q.1 q.2) (st := fun i => (nI (sN (fun p => on (h p)) i), nI i)) 8 _ (fun f => ?_) (fun f i hi => ?_) 1000 0 (by omega) (by omega)
  · show L_X11_friendships_4 M (fun w => nz 2 (some (w / 2))) (f + 1) _ (nI 8) = _
    rw [L_X11_friendships_4, if_pos (by decide), b2o]
  · show L_X11_friendships_4 M (fun w => nz 2 (some (w / 2))) (f + 1) (nI (sN (fun p => on (h p)) i)) (nI i) = L_X11_friendships_4 M (fun w => nz 2 (some (w / 2))) f (nI (sN (fun p => on (h p)) i + on (h i))) (nI (i + 1))
    rw [L_X11_friendships_4, if_neg (show ¬ (8 : Int32) ≤ nI i from nI_ge (b := 8) hi (by decide)), ibd_nI hi (by decide), nIN (by omega), u_ones g hi, Option.bind_some]
    simp only [lt, nI_1, nI_add]
theorem a_count : ag_count zR := by
  intro X M a1 hR
  unfold F_X10_count F_X11_count
  simp only [bso]
  by_cases h0 : a1 = 0
  · rw [if_pos h0, if_pos h0, h0]
    obtain ⟨W, g⟩ := e_gB hR.2.1 (w := 0) (by omega)
    exact ⟨_, e_cX g, e_cM g⟩
  rw [if_neg h0, if_neg h0]
  by_cases h1 : a1 = 1
  · rw [if_pos h1, if_pos h1, h1]
    obtain ⟨W, g⟩ := e_gB hR.2.1 (w := 1) (by omega)
    exact ⟨_, e_cX g, e_cM g⟩
  rw [if_neg h1, if_neg h1]
  have hR' := hR
  obtain ⟨⟨t, ht, t1, t2, -⟩, -, ⟨n, now, sf, -, -, -, s1, s2, -⟩, -, ⟨k, -, w1, w2, -⟩, ⟨hh, hF, -⟩, ⟨n8, len, r0, r1, r2, r3⟩, ⟨f1, -⟩⟩ := hR'
  by_cases h2 : a1 = 2
  · rw [if_pos h2, if_pos h2, t2]
    exact ⟨_, congrArg some t1, rfl⟩
  rw [if_neg h2, if_neg h2]
  by_cases h3 : a1 = 3
  · rw [if_pos h3, if_pos h3, s2]
    exact ⟨_, congrArg some s1, rfl⟩
  rw [if_neg h3, if_neg h3]
  by_cases h4 : a1 = 4
  · rw [if_pos h4, if_pos h4]
    obtain ⟨n, -, -, c1, c2, -⟩ := g_all hR
    exact ⟨_, c1, c2⟩
  rw [if_neg h4, if_neg h4]
  by_cases h5 : a1 = 5
  · rw [if_pos h5, if_pos h5, w2]
    exact ⟨_, congrArg some w1, rfl⟩
  rw [if_neg h5, if_neg h5]
  by_cases h6 : a1 = 6
  · rw [if_pos h6, if_pos h6, u_tell hF, c_fr hF]
    exact ⟨_, b2o _, rfl⟩
  rw [if_neg h6, if_neg h6]
  by_cases h7 : a1 = 7
  · rw [if_pos h7, if_pos h7, k_len ⟨r0, r1, r2, r3⟩, k_whole ⟨r0, r1, r2, r3⟩]
    exact ⟨_, rfl, rfl⟩
  rw [if_neg h7, if_neg h7]
  by_cases h8 : a1 = 8
  · rw [if_pos h8, if_pos h8, ← f1]
    exact ⟨_, rfl, rfl⟩
  rw [if_neg h8, if_neg h8]
  exact ⟨_, rfl, rfl⟩
