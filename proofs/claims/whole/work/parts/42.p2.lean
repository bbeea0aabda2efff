theorem loopN {α σ : Type} (L : Nat → σ → Option α) (st : Nat → σ) (n : Nat) (res : Option α) (hx : ∀ f, L (f + 1) (st n) = res) (hs : ∀ f i, i < n → L (f + 1) (st i) = L f (st (i + 1))) : ∀ f i, i ≤ n → n - i < f → L f (st i) = res := by
  intro f
  induction f with
  | zero => intro i _ h; omega
  | succ f ih =>
    intro i hi hf
    by_cases h : i = n
    · subst h; exact hx f
    · rw [hs f i (by omega)]
      exact ih (i + 1) (by omega) (by omega)
def cN (p : Nat → Bool) : Nat → Nat
  | 0 => 0
  | n + 1 => cN p n + (if p n then 1 else 0)
theorem cN_le (p : Nat → Bool) : ∀ n, cN p n ≤ n
  | 0 => Nat.le_refl 0
  | n + 1 => by
    have := cN_le p n
    unfold cN
    split <;> omega
theorem i10 : ¬ ((1 : Int32) = 0) := by decide
theorem a_leaves : ag_leaves zR := by
  intro SX SM a1 a2 hR
  have hR' := hR
  obtain ⟨-, -, -, -, ⟨n, h1, e1, e2, hb⟩, -⟩ := hR'
  unfold F_X10_leaves F_X11_leaves F_X9_staysTold
  rw [Option.bind_some, p_out, p_in, e1, e2]
  by_cases h : (0 : Int32) ≤ a1 ∧ a1 ≤ nI n - 1
  · have hn : n ≠ 0 := by
      rintro rfl
      exact absurd (Int32.le_trans h.1 h.2) (by decide)
    have en : nI n - 1 = nI (n - 1) := pk_sub (a := n) (b := 1) (by omega)
    have h' := h
    rw [en] at h'
    obtain ⟨i, -, hi, rfl⟩ := rng 0 (n - 1) rfl rfl (by omega) (by decide) h'
    have hi24 : i < 24 := by omega
    obtain ⟨f, l, h3, h4, h5, x1, x2, x3, x4⟩ := hb i (by omega)
    rw [if_pos h, if_pos h, Option.bind_some, Option.bind_some, if_pos rfl, if_neg i01]
    unfold F_X9_firstDay
    rw [ibd_nI hi24 (by decide), Option.bind_some, nIN (by omega), x1, x2, p_end, Option.bind_some, ibd_nI hi24 (by decide), p_in, Option.bind_some]
    by_cases h2 : nI f ≤ a2 ∧ a2 ≤ zmin 99 (nI f + 19)
    · have h2' := (p_span (by omega) a2).mp h2
      obtain ⟨j, h6, h7, rfl⟩ := rng f 99 rfl rfl (by omega) (by omega) h2'.1
      have h8 : j ≤ f + 19 := by
        have h9 := h2'.2
        rw [pk_sub h6] at h9
        have := (nI_leI (a := j - f) (b := 19) (by omega) (by decide)).mp h9
        omega
      rw [if_pos h2, if_pos h2'.1, if_pos rfl, if_neg i01, ibd_nI hi24 (by decide), if_pos h2'.2, ibd_nI hi24 (by decide)]
      unfold F_X9_endOn
      rw [ibd_nI hi24 (by decide)]
      simp only [lt, nIN (show i < 2 ^ 31 by omega), x3, x4]
      rw [ibd_nI hi24 (by decide), ibd_nI hi24 (by decide), b2_some]
      refine ⟨_, _, _, rfl, rfl, zR_W (eS_A (eS_r _ _ _ SX) 20 _ (by decide)) (eS_A (eS_r _ _ _ SM) 12 _ (by decide)) hR ⟨n, h1, e1, e2, fun k hk => ?_⟩⟩
      obtain ⟨f', l', g1, g2, g3, y1, y2, y3, y4⟩ := hb k hk
      by_cases hki : k = i
      · subst hki
        exact ⟨f, j, h6, h7, h8, x1, x2, upd_s _ _ _, upd_s _ _ _⟩
      · exact ⟨f', l', g1, g2, g3, y1, y2, (upd_n _ _ hki).trans y3, (upd_n _ _ hki).trans y4⟩
    · have h2' : ¬ ((nI f ≤ a2 ∧ a2 ≤ 99) ∧ a2 - nI f ≤ 19) := fun q => h2 ((p_span (by omega) a2).mpr q)
      rw [if_neg h2, if_neg i01]
      by_cases h8 : nI f ≤ a2 ∧ a2 ≤ 99
      · rw [if_pos h8, if_neg i01, ibd_nI hi24 (by decide), if_neg (fun q => h2' ⟨h8, q⟩)]
        exact ⟨_, _, _, rfl, rfl, hR⟩
      · rw [if_neg h8, if_pos rfl]
        exact ⟨_, _, _, rfl, rfl, hR⟩
  · rw [if_neg h, if_neg h, Option.bind_some, Option.bind_some, if_neg i01, if_pos rfl]
    exact ⟨_, _, _, rfl, rfl, hR⟩
theorem a_families : ag_families zR := by
  intro SX SM a1 a2 a3 hR
  unfold F_X10_families F_X11_families
  rw [p_out, p_in]
  by_cases h : (0 : Int32) ≤ a1 ∧ a1 ≤ 3
  · obtain ⟨t, -, ht, rfl⟩ := rng 0 3 rfl rfl (by decide) (by decide) h
    rw [if_pos h, if_pos h, Option.bind_some, Option.bind_some, if_pos rfl, if_neg i01, p_out, p_in]
    by_cases h2 : (1 : Int32) ≤ a2 ∧ a2 ≤ 8
    · obtain ⟨n, hn0, hn, rfl⟩ := rng 1 8 rfl rfl (by decide) (by decide) h2
      rw [if_pos h2, if_pos h2, Option.bind_some, Option.bind_some, if_pos rfl, if_neg i01, p_out, p_in]
      by_cases h3 : (0 : Int32) ≤ a3 ∧ a3 ≤ 9
      · obtain ⟨v, -, hv, rfl⟩ := rng 0 9 rfl rfl (by decide) (by decide) h3
        have e9 : (9 : Int32) * nI t + nI n = nI (9 * t + n) := by
          rw [show (9 : Int32) = nI 9 from rfl, pk_mul, nI_add]
        rw [if_pos h3, if_pos h3, Option.bind_some, Option.bind_some, if_pos rfl, if_neg i01, e9]
        have hR' := hR
        obtain ⟨-, -, -, hC, -⟩ := hR'
        obtain ⟨v0, hv0, x1, x2⟩ := hC t (by omega) n hn0 hn
        unfold F_X1_setFamilies
        rw [ibd_nI (show t < 4 by omega) (by decide), ibd_nI (show n < 9 by omega) (by decide), ibd_nI (show 9 * t + n < 36 by omega) (by decide)]
        simp only [lt, nIN (show t < 2 ^ 31 by omega), nIN (show n < 2 ^ 31 by omega), nIN (show 9 * t + n < 2 ^ 31 by omega), x1, x2]
        rw [ibd_nI (show t < 4 by omega) (by decide), ibd_nI (show n < 9 by omega) (by decide), ibd_nI (show 9 * t + n < 36 by omega) (by decide), b2_some]
        refine ⟨_, _, _, rfl, rfl, zR_C (eS_A (eS_r _ _ _ SX) (38 + t) _ (by simp; omega)) (eS_A (eS_r _ _ _ SM) 10 _ (by decide)) hR (fun t' ht' n' hn1 hn2 => ?_)⟩
        obtain ⟨v', hv', y1, y2⟩ := hC t' ht' n' hn1 hn2
        rw [zA_sA, zA_sA, if_pos rfl]
        by_cases htt : t' = t
        · subst htt
          rw [if_pos rfl]
          by_cases hnn : n' = n
          · subst hnn
            exact ⟨v, hv, upd_s _ _ _, upd_s _ _ _⟩
          · exact ⟨v', hv', (upd_n _ _ hnn).trans y1, (upd_n _ _ (by omega)).trans y2⟩
        · rw [if_neg (by omega)]
          exact ⟨v', hv', y1, (upd_n _ _ (by omega)).trans y2⟩
      · rw [if_neg h3, if_neg h3, Option.bind_some, Option.bind_some, if_neg i01, if_pos rfl]
        exact ⟨_, _, _, rfl, rfl, hR⟩
    · rw [if_neg h2, if_neg h2, Option.bind_some, Option.bind_some, if_neg i01, if_pos rfl]
      exact ⟨_, _, _, rfl, rfl, hR⟩
  · rw [if_neg h, if_neg h, Option.bind_some, Option.bind_some, if_neg i01, if_pos rfl]
    exact ⟨_, _, _, rfl, rfl, hR⟩
theorem p_now (X : zSt) (a : Int32) : F_X7_cannotBeNow X a = some (if zI X 5 ≤ a ∧ a ≤ 999 then 0 else 1) := by
  unfold F_X7_cannotBeNow
  rw [p_out, Option.bind_some]
  by_cases h : zI X 5 ≤ a ∧ a ≤ 999
  · rw [if_pos h]; rfl
  · rw [if_neg h]; rfl
/-- an answer more, on both sides: what it comes to -/
theorem s_more {X M : zSt} (hR : zR X M) (a1 a2 : Int32) : ∃ (r : Int32) (X1 M1 : zSt), F_X10_asked X a1 a2 = some (r, X1) ∧ F_X11_answerMore M a1 a2 = some (r, M1) ∧ zR X1 M1 ∧ eS [4, 5] [15, 16, 17] [] X X1 ∧ eS [2, 3] [7, 8, 9] [] M M1 := by
  unfold F_X10_asked F_X11_answerMore
  rw [p_out, p_in]
  by_cases h : (1 : Int32) ≤ a1 ∧ a1 ≤ 8
  · obtain ⟨v, hv0, hv, rfl⟩ := rng 1 8 rfl rfl (by decide) (by decide) h
    rw [if_pos h, if_pos h, Option.bind_some, Option.bind_some, if_pos rfl, if_neg i01, p_now, p_in]
    have hR' := hR
    obtain ⟨-, -, ⟨n, now, sf, h1, h2, h3, e1, e2, e3, e4, e5, e6, hb⟩, -⟩ := hR'
    rw [e3, e4]
    by_cases ht : nI now ≤ a2 ∧ a2 ≤ 999
    · obtain ⟨t, ht0, ht1, rfl⟩ := rng now 999 rfl rfl (by decide) (by omega) ht
      rw [if_pos ht, if_pos ht, Option.bind_some, Option.bind_some, if_pos rfl, if_neg i01]
      unfold F_X7_answer
      by_cases h4 : n < 40
      · rw [e1, e2, if_pos (show nI _ < (40 : Int32) from nI_lt (b := 40) h4 (by decide)), if_neg (show ¬ nI _ = (40 : Int32) from nI_ne (b := 40) (by omega) (by omega) (by decide)), ibd_nI h4 (by decide), ibd_nI h4 (by decide)]
        simp only [lt, b2_some, zI_sI, zI_sA, e1, e2, if_true, ibd_nI h4 (show 40 < 2 ^ 31 by decide), nIN (show n < 2 ^ 31 by omega), show ¬ (4 : Nat) = 5 by decide, show ¬ (2 : Nat) = 3 by decide, if_false]
        refine ⟨_, _, _, rfl, rfl, zR_S (eS_I (eS_I (eS_A (eS_A (eS_A (eS_r _ _ _ X) 15 _ (by decide)) 16 _ (by decide)) 17 _ (by decide)) 5 _ (by decide)) 4 _ (by decide)) (eS_I (eS_I (eS_A (eS_A (eS_A (eS_r _ _ _ M) 7 _ (by decide)) 8 _ (by decide)) 9 _ (by decide)) 3 _ (by decide)) 2 _ (by decide)) hR ⟨n + 1, t, sf, by omega, ht1, h3, nI_1 n, nI_1 n, rfl, rfl, e5, e6, fun i hi => ?_⟩, eS_I (eS_I (eS_A (eS_A (eS_A (eS_r _ _ _ X) 15 _ (by decide)) 16 _ (by decide)) 17 _ (by decide)) 5 _ (by decide)) 4 _ (by decide), eS_I (eS_I (eS_A (eS_A (eS_A (eS_r _ _ _ M) 7 _ (by decide)) 8 _ (by decide)) 9 _ (by decide)) 3 _ (by decide)) 2 _ (by decide)⟩
        by_cases hit : i = n
        · subst hit
          exact ⟨v, t, hv0, hv, ht1, upd_s _ _ _, upd_s _ _ _, upd_s _ _ _, upd_s _ _ _, Or.inl ⟨upd_s _ _ _, upd_s _ _ _⟩⟩
        · obtain ⟨a, t', g1, g2, g3, y1, y2, y3, y4, y5⟩ := hb i (by omega)
          refine ⟨a, t', g1, g2, g3, (upd_n _ _ hit).trans y1, (upd_n _ _ hit).trans y2, (upd_n _ _ hit).trans y3, (upd_n _ _ hit).trans y4, ?_⟩
          rcases y5 with ⟨z1, z2⟩ | ⟨d, z0, z1, z2⟩
          · exact Or.inl ⟨(upd_n _ _ hit).trans z1, (upd_n _ _ hit).trans z2⟩
          · exact Or.inr ⟨d, z0, (upd_n _ _ hit).trans z1, (upd_n _ _ hit).trans z2⟩
      · have e : n = 40 := by omega
        subst e
        rw [e1, e2, if_neg (by decide), if_pos (show nI 40 = (40 : Int32) from rfl)]
        exact ⟨_, _, _, rfl, rfl, hR, eS_r _ _ _ _, eS_r _ _ _ _⟩
    · rw [if_neg ht, if_neg ht, Option.bind_some, Option.bind_some, if_neg i01, if_pos rfl]
      exact ⟨_, _, _, rfl, rfl, hR, eS_r _ _ _ _, eS_r _ _ _ _⟩
  · rw [if_neg h, if_neg h, Option.bind_some, Option.bind_some, if_neg i01, if_pos rfl]
    exact ⟨_, _, _, rfl, rfl, hR, eS_r _ _ _ _, eS_r _ _ _ _⟩
theorem a_asked : ag_asked zR := by
  intro SX SM a1 a2 hR
  obtain ⟨r, X1, M1, h1, h2, h3, -, -⟩ := s_more hR a1 a2
  exact ⟨r, X1, M1, h1, by unfold F_X11_asked; rw [h2]; rfl, h3⟩
theorem a_takeBack : ag_takeBack zR := by
  intro SX SM a1 a2 hR
  have hR' := hR
  obtain ⟨-, -, ⟨n, now, sf, h1, h2, h3, e1, e2, e3, e4, e5, e6, hb⟩, -⟩ := hR'
  unfold F_X10_takeBack F_X11_takeBack F_X7_answersTold
  rw [Option.bind_some, p_out, p_in, e1, e2]
  by_cases h : (0 : Int32) ≤ a1 ∧ a1 ≤ nI n - 1
  · have hn : n ≠ 0 := by
      rintro rfl
      exact absurd (Int32.le_trans h.1 h.2) (by decide)
    have en : nI n - 1 = nI (n - 1) := pk_sub (a := n) (b := 1) (by omega)
    have h' := h
    rw [en] at h'
    obtain ⟨i, -, hi, rfl⟩ := rng 0 (n - 1) rfl rfl (by omega) (by decide) h'
    have hi40 : i < 40 := by omega
    rw [if_pos h, if_pos h, Option.bind_some, Option.bind_some, if_pos rfl, if_neg i01, p_now, p_in, e3, e4]
    by_cases ht : nI now ≤ a2 ∧ a2 ≤ 999
    · obtain ⟨t, ht0, ht1, rfl⟩ := rng now 999 rfl rfl (by decide) (by omega) ht
      rw [if_pos ht, if_pos ht, Option.bind_some, Option.bind_some, if_pos rfl, if_neg i01]
      unfold F_X7_isTakenBack F_X7_forget
      obtain ⟨a, t', g1, g2, g3, y1, y2, y3, y4, y5⟩ := hb i (by omega)
      rw [ibd_nI hi40 (by decide), ibd_nI hi40 (by decide), ibd_nI hi40 (by decide), nIN (by omega)]
      rcases y5 with ⟨z1, z2⟩ | ⟨d, z0, z1, z2⟩
      · rw [z1, z2, if_pos (show nI 1000 = (1000 : Int32) from rfl), if_pos rfl, Option.bind_some, if_pos rfl, ibd_nI hi40 (by decide)]
        simp only [lt, Option.bind_some]
        refine ⟨_, _, _, rfl, rfl, zR_S (eS_I (eS_A (eS_r _ _ _ SX) 17 _ (by decide)) 5 _ (by decide)) (eS_I (eS_A (eS_r _ _ _ SM) 9 _ (by decide)) 3 _ (by decide)) hR ⟨n, t, sf, h1, ht1, h3, e1, e2, rfl, rfl, e5, e6, fun k hk => ?_⟩⟩
        obtain ⟨a', t'', g1', g2', g3', y1', y2', y3', y4', y5'⟩ := hb k hk
        by_cases hki : k = i
        · subst hki
          exact ⟨a', t'', g1', g2', g3', y1', y2', y3', y4', Or.inr ⟨t, ht1, upd_s _ _ _, upd_s _ _ _⟩⟩
        · refine ⟨a', t'', g1', g2', g3', y1', y2', y3', y4', ?_⟩
          rcases y5' with ⟨w1, w2⟩ | ⟨d', w0, w1, w2⟩
          · exact Or.inl ⟨(upd_n _ _ hki).trans w1, (upd_n _ _ hki).trans w2⟩
          · exact Or.inr ⟨d', w0, (upd_n _ _ hki).trans w1, (upd_n _ _ hki).trans w2⟩
      · rw [z1, z2, if_neg (show ¬ nI d = (1000 : Int32) from nI_ne (b := 1000) (by omega) (by omega) (by decide)), Option.bind_some, if_neg i01, if_neg]
        · exact ⟨_, _, _, rfl, rfl, hR⟩
        · intro q
          have q2 := congrArg Int32.toInt q
          rw [nI_toInt (by omega)] at q2
          have : (-1 : Int32).toInt = -1 := by decide
          omega
    · rw [if_neg ht, if_neg ht, Option.bind_some, Option.bind_some, if_neg i01, if_pos rfl]
      exact ⟨_, _, _, rfl, rfl, hR⟩
  · rw [if_neg h, if_neg h, Option.bind_some, Option.bind_some, if_neg i01, if_pos rfl]
    exact ⟨_, _, _, rfl, rfl, hR⟩
