theorem itS_eS {I A L : List Nat} {f : Nat → zSt → zSt} (h : ∀ i S, eS I A L S (f i S)) (S : zSt) : ∀ n, eS I A L S (itS f S n)
  | 0 => eS_r _ _ _ _
  | n + 1 => eS_t (itS_eS h S n) (h n _)
theorem p_renew {S : zSt} {s n : Nat} (hs : s < 4) (hn : n ≤ 60) (k : zSt → Option zSt) : L_X5_renew_17 (nI s) (nI n) k 1000 S (nI 0) = k (itS (fun i S => sA S (42 + s) (upd (zA S (42 + s)) i 0)) S n) := by
  refine loopN (L := fun f (q : zSt × Int32) => L_X5_renew_17 (nI s) (nI n) k f q.1 q.2) (st := fun i => (itS (fun i S => sA S (42 + s) (upd (zA S (42 + s)) i 0)) S i, nI i)) n _ (fun f => ?_) (fun f i hi => ?_) 1000 0 (by omega) (by omega)
  · show L_X5_renew_17 (nI s) (nI n) k (f + 1) _ (nI n) = _
    rw [L_X5_renew_17, if_pos Int32.le_rfl]
  · show L_X5_renew_17 (nI s) (nI n) k (f + 1) _ (nI i) = _
    rw [L_X5_renew_17, if_neg (nI_ge hi (by omega)), ibd_nI hs (by decide), ibd_nI (show i < 60 by omega) (by decide), nIN (by omega), nIN (by omega)]
    simp only [lt, nI_1]
    rfl
theorem p_mzero {S : zSt} {s : Nat} (hs : s < 4) (a3 : Int32) (k : zSt → Option (Int32 × zSt)) : L_X11_sheet_59 (nI s) a3 k 1000 S (nI 0) = k (itS (fun i S => sA S 18 (upd (zA S 18) (60 * s + i) 0)) S 60) := by
  refine loopN (L := fun f (q : zSt × Int32) => L_X11_sheet_59 (nI s) a3 k f q.1 q.2) (st := fun i => (itS (fun i S => sA S 18 (upd (zA S 18) (60 * s + i) 0)) S i, nI i)) 60 _ (fun f => ?_) (fun f i hi => ?_) 1000 0 (by omega) (by omega)
  · show L_X11_sheet_59 (nI s) a3 k (f + 1) _ (nI 60) = _
    rw [L_X11_sheet_59, if_pos (by decide)]
  · show L_X11_sheet_59 (nI s) a3 k (f + 1) _ (nI i) = _
    rw [L_X11_sheet_59, if_neg (show ¬ (60 : Int32) ≤ nI i from nI_ge (b := 60) hi (by decide)), e60, ibd_nI (show 60 * s + i < 240 by omega) (by decide), nIN (by omega)]
    simp only [lt, nI_1]
    rfl
theorem itX0 (S : zSt) (k : Nat) : ∀ n j, zA (itS (fun i S => sA S k (upd (zA S k) i 0)) S n) k j = if j < n then 0 else zA S k j
  | 0, j => by simp [itS]
  | n + 1, j => by
    show zA (sA _ k _) k j = _
    rw [zA_sA, if_pos rfl]
    by_cases h : j = n
    · subst h; rw [upd_s, if_pos (by omega)]
    · rw [upd_n _ _ h, itX0 S k n j]
      by_cases h2 : j < n
      · rw [if_pos h2, if_pos (by omega)]
      · rw [if_neg h2, if_neg (by omega)]
theorem itM0 (S : zSt) (s : Nat) : ∀ n j, zA (itS (fun i S => sA S 18 (upd (zA S 18) (60 * s + i) 0)) S n) 18 j = if 60 * s ≤ j ∧ j < 60 * s + n then 0 else zA S 18 j
  | 0, j => by rw [if_neg (by omega)]; rfl
  | n + 1, j => by
    show zA (sA _ 18 _) 18 j = _
    rw [zA_sA, if_pos rfl]
    by_cases h : j = 60 * s + n
    · subst h; rw [upd_s, if_pos (by omega)]
    · rw [upd_n _ _ h, itM0 S s n j]
      by_cases h2 : 60 * s ≤ j ∧ j < 60 * s + n
      · rw [if_pos h2, if_pos (by omega)]
      · rw [if_neg h2, if_neg (by omega)]
theorem a_sheet : ag_sheet zR := by
  intro SX SM a1 a2 a3 hR
  unfold F_X10_sheet F_X11_sheet
  rw [p_out, p_isSheet]
  by_cases h : (0 : Int32) ≤ a1 ∧ a1 ≤ 3
  · obtain ⟨s, -, hs, rfl⟩ := rng 0 3 rfl rfl (by decide) (by decide) h
    have hs4 : s < 4 := by omega
    rw [if_pos h, if_pos h, Option.bind_some, Option.bind_some, if_pos rfl, if_neg i01, p_out, p_in]
    by_cases h2 : (0 : Int32) ≤ a2 ∧ a2 ≤ 2
    · obtain ⟨f, -, hf, rfl⟩ := rng 0 2 rfl rfl (by decide) (by decide) h2
      rw [if_pos h2, if_pos h2, Option.bind_some, Option.bind_some, if_pos rfl, if_neg i01]
      by_cases h3 : a3 ≤ 60
      · rw [if_pos h3, if_pos h3]
        by_cases h4 : (0 : Int32) ≤ a3
        · obtain ⟨n, -, hn, rfl⟩ := rng 0 60 rfl rfl (by decide) (by decide) ⟨h4, h3⟩
          rw [if_pos h4, if_pos h4]
          unfold F_X5_renew
          simp only [ibd_nI hs4 (show 4 < 2 ^ 31 by decide), nIN (show s < 2 ^ 31 by omega), lt]
          rw [show (0 : Int32) = nI 0 from rfl, p_renew hs4 hn, p_mzero hs4, Option.bind_some]
          generalize hX1 : sA (sA SX 24 (upd (zA SX 24) s (nI f))) 25 (upd (zA (sA SX 24 (upd (zA SX 24) s (nI f))) 25) s (nI n)) = X1
          generalize hM1 : sA (sA (sA SM 15 (upd (zA SM 15) s 1)) 16 (upd (zA (sA SM 15 (upd (zA SM 15) s 1)) 16) s (nI f))) 17 (upd (zA (sA (sA SM 15 (upd (zA SM 15) s 1)) 16 (upd (zA (sA SM 15 (upd (zA SM 15) s 1)) 16) s (nI f))) 17) s (nI n)) = M1
          have eX : eS [] [42 + s] [] X1 (itS (fun i S => sA S (42 + s) (upd (zA S (42 + s)) i 0)) X1 n) := itS_eS (fun i S => eS_A (eS_r _ _ _ S) _ _ (by simp)) X1 n
          have eM : eS [] [18] [] M1 (itS (fun i S => sA S 18 (upd (zA S 18) (60 * s + i) 0)) M1 60) := itS_eS (fun i S => eS_A (eS_r _ _ _ S) _ _ (by simp)) M1 60
          have eX' : eS [9] [24, 25, 42, 43, 44, 45] [] SX (itS (fun i S => sA S (42 + s) (upd (zA S (42 + s)) i 0)) X1 n) := eS_t (by rw [← hX1]; exact eS_A (eS_A (eS_r _ _ _ SX) 24 _ (by decide)) 25 _ (by decide)) (eS_w eX (by simp) (by simp; omega) (by simp))
          have eM' : eS [7] [15, 16, 17, 18, 19] [] SM (itS (fun i S => sA S 18 (upd (zA S 18) (60 * s + i) 0)) M1 60) := eS_t (by rw [← hM1]; exact eS_A (eS_A (eS_A (eS_r _ _ _ SM) 15 _ (by decide)) 16 _ (by decide)) 17 _ (by decide)) (eS_w eM (by simp) (by simp) (by simp))
          refine ⟨_, _, _, rfl, rfl, zR_H eX' eM' hR ⟨?_, fun s' hs' => ?_⟩⟩
          · rw [eX.1 9 (by simp), eM.1 7 (by simp), ← hX1, ← hM1]
            exact hR.2.2.2.2.2.2.2.1
          · rw [eX.2.1 25 (by simp; omega), eX.2.1 24 (by simp; omega), eM.2.1 15 (by simp), eM.2.1 16 (by simp), eM.2.1 17 (by simp)]
            have c25 : zA X1 25 = upd (zA SX 25) s (nI n) := by rw [← hX1]; rfl
            have c24 : zA X1 24 = upd (zA SX 24) s (nI f) := by rw [← hX1]; rfl
            have c15 : zA M1 15 = upd (zA SM 15) s 1 := by rw [← hM1]; rfl
            have c16 : zA M1 16 = upd (zA SM 16) s (nI f) := by rw [← hM1]; rfl
            have c17 : zA M1 17 = upd (zA SM 17) s (nI n) := by rw [← hM1]; rfl
            have c18 : zA M1 18 = zA SM 18 := by rw [← hM1]; rfl
            have c42 : ∀ q, zA X1 (42 + q) = zA SX (42 + q) := fun q => by
              rw [← hX1, zA_sA, if_neg (by omega), zA_sA, if_neg (by omega)]
            rw [c25, c24, c15, c16, c17]
            by_cases hss : s' = s
            · subst hss
              refine Or.inr ⟨n, f, hn, hf, upd_s _ _ _, upd_s _ _ _, upd_s _ _ _, upd_s _ _ _, upd_s _ _ _, fun i hi => ?_⟩
              rw [itX0, if_pos hi, itM0, if_pos (by omega)]
            · rcases hR.2.2.2.2.2.2.2.2 s' hs' with ⟨h1, h2⟩ | ⟨n', f', y0, y1, y2, y3, y4, y5, y6, y7⟩
              · exact Or.inl ⟨(upd_n _ _ hss).trans h1, (upd_n _ _ hss).trans h2⟩
              · refine Or.inr ⟨n', f', y0, y1, (upd_n _ _ hss).trans y2, (upd_n _ _ hss).trans y3, (upd_n _ _ hss).trans y4, (upd_n _ _ hss).trans y5, (upd_n _ _ hss).trans y6, fun i hi => ?_⟩
                rw [eX.2.1 (42 + s') (by simp; omega), c42, itM0, if_neg (by omega), c18]
                exact y7 i hi
        · rw [if_neg h4, if_neg h4]
          exact ⟨_, _, _, rfl, rfl, h_meets hR _⟩
      · rw [if_neg h3, if_neg h3]
        exact ⟨_, _, _, rfl, rfl, hR⟩
    · rw [if_neg h2, if_neg h2, Option.bind_some, Option.bind_some, if_neg i01, if_pos rfl]
      exact ⟨_, _, _, rfl, rfl, hR⟩
  · rw [if_neg h, if_neg h, Option.bind_some, Option.bind_some, if_neg i01, if_pos rfl]
    exact ⟨_, _, _, rfl, rfl, hR⟩
/-- read: the two loops side by side -/
theorem p_read {s n : Nat} (hs : s < 4) (hn : n ≤ 60) (a2 : Int32) : ∀ (m i : Nat) (X M : zSt), zR X M → i + m = n → zA X 25 s = nI n → zA M 17 s = nI n → (∀ i, i < n → zA X (42 + s) i = zA M 18 (60 * s + i)) → ∀ f, m < f → ∃ (r : Int32) (X1 M1 : zSt), L_X10_read_55 (nI s) a2 (nI n) (fun S => some (nI n, S)) f X (nI i) = some (r, X1) ∧ L_X11_read_41 (nI s) a2 (fun S w => some (w, S)) f M (nI i) = some (r, M1) ∧ zR X1 M1 := by
  intro m
  induction m with
  | zero =>
    intro i X M hR hi x1 x2 x3 f hf
    obtain ⟨f, rfl⟩ : ∃ g, f = g + 1 := ⟨f - 1, by omega⟩
    have e : i = n := by omega
    subst e
    rw [L_X10_read_55, L_X11_read_41, if_pos Int32.le_rfl, ibd_nI hs (by decide), nIN (by omega), x2, if_pos Int32.le_rfl]
    exact ⟨_, _, _, rfl, rfl, hR⟩
  | succ m ih =>
    intro i X M hR hi x1 x2 x3 f hf
    obtain ⟨f, rfl⟩ : ∃ g, f = g + 1 := ⟨f - 1, by omega⟩
    rw [L_X10_read_55, L_X11_read_41, if_neg (nI_ge (show i < n by omega) (by omega)), ibd_nI hs (by decide), nIN (by omega), x2, if_neg (nI_ge (show i < n by omega) (by omega)), e60, ibd_nI (show 60 * s + i < 240 by omega) (by decide), nIN (by omega)]
    unfold F_X5_itemAt
    rw [ibd_nI hs (by decide), ibd_nI (show i < 60 by omega) (by decide), nIN (by omega), nIN (by omega), Option.bind_some, x3 i (by omega)]
    obtain ⟨r, X1, M1, q1, q2, q3, q4, q5⟩ := s_more hR (zA M 18 (60 * s + i)) a2
    rw [q1, q2, b2_some, b2_some]
    by_cases hr : r < 0
    · rw [if_neg (Int32.not_le.mpr hr), if_pos hr]
      exact ⟨_, _, _, rfl, rfl, q3⟩
    · rw [if_pos (Int32.not_lt.mp hr), if_neg hr]
      simp only [lt, nI_1]
      refine ih (i + 1) X1 M1 q3 (by omega) (by rw [q4.2.1 25 (by decide)]; exact x1) (by rw [q5.2.1 17 (by decide)]; exact x2) (fun k hk => ?_) f (by omega)
      rw [q4.2.1 (42 + s) (by simp; omega), q5.2.1 18 (by decide)]
      exact x3 k hk
theorem a_read : ag_read zR := by
  intro SX SM a1 a2 hR
  unfold F_X10_read F_X11_read
  rw [p_out, p_isSheet]
  by_cases h : (0 : Int32) ≤ a1 ∧ a1 ≤ 3
  · obtain ⟨s, -, hs, rfl⟩ := rng 0 3 rfl rfl (by decide) (by decide) h
    have hs4 : s < 4 := by omega
    rw [if_pos h, if_pos h, Option.bind_some, Option.bind_some, if_pos rfl, if_neg i01, p_now, p_in]
    have hR' := hR
    obtain ⟨-, -, ⟨n, now, sf, h1, h2, h3, e1, e2, e3, e4, e5, e6, hb⟩, -⟩ := hR'
    rw [e3, e4]
    by_cases ht : nI now ≤ a2 ∧ a2 ≤ 999
    · rw [if_pos ht, if_pos ht, Option.bind_some, Option.bind_some, if_pos rfl, if_neg i01, ibd_nI hs4 (by decide), nIN (by omega)]
      rcases hR.2.2.2.2.2.2.2.2 s hs4 with ⟨g1, g2⟩ | ⟨n', f', y0, y1, y2, y3, y4, y5, y6, y7⟩
      · rw [p_lost0 hs4 g1, Option.bind_some, if_neg i01, g2, if_pos rfl]
        exact ⟨_, _, _, rfl, rfl, h_meets hR _⟩
      · rw [p_lost1 hs4 y2 y0, Option.bind_some, if_pos rfl, y3, if_neg i01]
        unfold F_X5_itemsOf
        rw [ibd_nI hs4 (by decide), nIN (by omega), y2, Option.bind_some]
        exact p_read hs4 y0 a2 n' 0 SX SM hR (by omega) y2 y4 y7 1000 (by omega)
    · rw [if_neg ht, if_neg ht, Option.bind_some, Option.bind_some, if_neg i01, if_pos rfl]
      exact ⟨_, _, _, rfl, rfl, hR⟩
  · rw [if_neg h, if_neg h, Option.bind_some, Option.bind_some, if_neg i01, if_pos rfl]
    exact ⟨_, _, _, rfl, rfl, hR⟩
