theorem m_stick {X M : zSt} {n : Nat} {len : Nat → Nat} (g : gR X M n len) {c k : Nat} (hc : c ≤ 2) (hk1 : 1 ≤ k) (hk : k ≤ if c = 0 then 1 else 5) {w : Int32} (hw : (0 : Int32) ≤ w ∧ w ≤ 1) : ∃ r, F_X10_stick X (nI c) (nI k) w = some r ∧ F_X11_stickNow M (nI c) (nI k) w = some r := by
  have b := k_T g
  have g1 := g.1
  have hk5 : k ≤ 5 := by
    split at hk <;> omega
  have hr : (0 : Int32) ≤ nI c ∧ nI c ≤ 2 := rng' (a := 0) (b := 2) (by omega) hc (by decide)
  have fin : ∀ A : Nat, A < 2 ^ 62 → ∃ r, (F_X2_told (lN A) (lN (sN len n ^ k)) w).bind (fun r => some r) = some r ∧ (if nI n = 0 then (F_X11_no (-3)).bind (fun r => some r) else (F_X11_lowest (lN A) (lN (sN len n ^ k)) w).bind (fun r => some r)) = some r := fun A hA => by
    have p2 := k_pw b hk5
    by_cases z : n = 0
    · subst z
      rw [show sN len 0 ^ k = 0 from Nat.zero_pow hk1, fr_0, if_pos nI_0]
      exact ⟨_, rfl, rfl⟩
    · obtain ⟨r, r1, r2⟩ := fr_eq (a := A) (b := sN len n ^ k) (by omega) (k_pos g (by omega) k) (by omega) w
      rw [if_neg (nI_ne0 (by omega) (by omega)), r1, r2]
      exact ⟨r, rfl, rfl⟩
  unfold F_X10_stick F_X11_stickNow
  rw [p_out, if_pos hr, Option.bind_some, g.2.2.1]
  simp only [jn]
  rw [if_true]
  have cases : c = 0 ∨ c = 1 ∨ c = 2 := by omega
  rcases cases with rfl | rfl | rfl
  · obtain rfl : k = 1 := by
      rw [if_pos rfl] at hk
      omega
    rw [if_pos nI_0, p_out, if_pos (show (1 : Int32) ≤ nI 1 ∧ nI 1 ≤ 1 by decide), Option.bind_some, if_pos rfl, p_out, if_pos hw, Option.bind_some, if_pos rfl, if_pos nI_0, m_sqX g, k_len g, k_whole g, Option.bind_some, Option.bind_some, Option.bind_some]
    have l : sN (fun i => len i * len i) n ≤ n * (20 * 20) := sN_le' _ _ n (fun i hi => Nat.mul_le_mul (g.2.2.2 i hi).2.1 (g.2.2.2 i hi).2.1)
    rw [lt_eq, lt_eq, if_pos nI_0, lt_eq, m_sqM g, nI_l (by omega), nI_l (by omega)]
    have := fin (sN (fun i => len i * len i) n) (by omega)
    rw [Nat.pow_one] at this
    exact this
  · rw [if_neg (show ¬ nI 1 = 0 by decide), p_out, if_pos (show (1 : Int32) ≤ nI k ∧ nI k ≤ 5 from rng' (a := 1) (b := 5) hk1 hk5 (by decide)), Option.bind_some, if_pos rfl, p_out, if_pos hw, Option.bind_some, if_pos rfl, if_neg (show ¬ nI 1 = 0 by decide), if_pos (show nI 1 = 1 by decide), m_hitsX g hk5, k_ways g hk5, k_whole g, Option.bind_some, Option.bind_some, Option.bind_some]
    rw [lt_eq, lt_eq, if_neg (show ¬ nI 1 = 0 by decide), if_pos (show nI 1 = 1 by decide), lt_eq, m_hitsM g hk5, k_pM (by omega) hk5, Option.bind_some]
    have l : sN (fun i => sN len n ^ k - (sN len n - len i) ^ k) n ≤ n * 104857600000 := sN_le' _ _ n (fun i hi => by
      have := k_pw b hk5
      omega)
    exact fin _ (by omega)
  · rw [if_neg (show ¬ nI 2 = 0 by decide), p_out, if_pos (show (1 : Int32) ≤ nI k ∧ nI k ≤ 5 from rng' (a := 1) (b := 5) hk1 hk5 (by decide)), Option.bind_some, if_pos rfl, p_out, if_pos hw, Option.bind_some, if_pos rfl, if_neg (show ¬ nI 2 = 0 by decide), if_neg (show ¬ nI 2 = 1 by decide), m_allX g hk5, k_ways g hk5, k_whole g, Option.bind_some, Option.bind_some, Option.bind_some]
    rw [lt_eq, lt_eq, if_neg (show ¬ nI 2 = 0 by decide), if_neg (show ¬ nI 2 = 1 by decide), lt_eq, m_allM g hk5, k_pM (by omega) hk5, Option.bind_some]
    obtain ⟨A, hA, e⟩ := m_dS g hk5
    rw [e]
    exact fin A hA
theorem a_stick : ag_stick zR := by
  intro SX SM a1 a2 a3 hR
  obtain ⟨n, len, g⟩ := hR.2.2.2.2.2.2.1
  have g : gR SX SM n len := g
  by_cases h1 : (0 : Int32) ≤ a1 ∧ a1 ≤ 2
  · obtain ⟨c, -, hc, rfl⟩ := rng 0 2 rfl rfl (by decide) (by decide) h1
    by_cases h2 : (1 : Int32) ≤ a2 ∧ a2 ≤ (if nI c = 0 then 1 else 5)
    · by_cases h3 : (0 : Int32) ≤ a3 ∧ a3 ≤ 1
      · have e : (if nI c = 0 then (1 : Int32) else 5) = nI (if c = 0 then 1 else 5) := by
          by_cases z : c = 0
          · rw [if_pos z, if_pos ((nI_eq0 (by omega)).mpr z)]; rfl
          · rw [if_neg z, if_neg (fun q => z ((nI_eq0 (by omega)).mp q))]; rfl
        have h2' := h2
        rw [e] at h2'
        obtain ⟨k, hk1, hk, rfl⟩ := rng 1 (if c = 0 then 1 else 5) rfl rfl (by split <;> omega) (by omega) h2'
        obtain ⟨r, r1, r2⟩ := m_stick g hc hk1 hk h3
        refine ⟨r, r1, ?_⟩
        unfold F_X11_stick
        rw [p_in, if_pos h1, Option.bind_some]
        simp only [jn]
        rw [if_neg i01]
        by_cases z : nI c = 0
        · rw [if_pos z] at h2 ⊢
          rw [p_in, if_pos h2, Option.bind_some, if_neg i01, p_in, if_pos h3, Option.bind_some, if_neg i01, r2]
          rfl
        · rw [if_neg z] at h2 ⊢
          rw [p_in, if_pos h2, Option.bind_some, if_neg i01, p_in, if_pos h3, Option.bind_some, if_neg i01, r2]
          rfl
      · unfold F_X10_stick F_X11_stick
        rw [p_out, p_in, if_pos h1, if_pos h1, Option.bind_some, Option.bind_some]
        simp only [jn]
        rw [if_true, if_neg i01]
        by_cases z : nI c = 0
        · rw [if_pos z] at h2
          simp only [if_pos z]
          rw [p_out, p_in, if_pos h2, if_pos h2, Option.bind_some, Option.bind_some, if_pos rfl, if_neg i01, p_out, p_in, if_neg h3, if_neg h3]
          exact ⟨_, rfl, rfl⟩
        · rw [if_neg z] at h2
          simp only [if_neg z]
          rw [p_out, p_in, if_pos h2, if_pos h2, Option.bind_some, Option.bind_some, if_pos rfl, if_neg i01, p_out, p_in, if_neg h3, if_neg h3]
          exact ⟨_, rfl, rfl⟩
    · unfold F_X10_stick F_X11_stick
      rw [p_out, p_in, if_pos h1, if_pos h1, Option.bind_some, Option.bind_some]
      simp only [jn]
      rw [if_true, if_neg i01]
      by_cases z : nI c = 0
      · rw [if_pos z] at h2
        simp only [if_pos z]
        rw [p_out, p_in, if_neg h2, if_neg h2]
        exact ⟨_, rfl, rfl⟩
      · rw [if_neg z] at h2
        simp only [if_neg z]
        rw [p_out, p_in, if_neg h2, if_neg h2]
        exact ⟨_, rfl, rfl⟩
  · unfold F_X10_stick F_X11_stick
    rw [p_out, p_in, if_neg h1, if_neg h1]
    exact ⟨_, rfl, rfl⟩
