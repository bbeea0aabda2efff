theorem eS_r (I A L : List Nat) (S : zSt) : eS I A L S S := ⟨fun _ _ => rfl, fun _ _ => rfl, fun _ _ => rfl⟩
section ZM
variable {X X1 M M1 : zSt}
theorem zR_T (hX : eS [0, 1] [10] [] X X1) (hM : eS [0, 1] [1, 2] [] M M1) (h : zR X M) (n : rT X1 M1) : zR X1 M1 := ⟨n, rL_f hX hM (by decide) h.2.1, rS_f hX hM (by decide) h.2.2.1, rC_f hX hM (by decide) h.2.2.2.1, rW_f hX hM (by decide) h.2.2.2.2.1, rF_f hX hM (by decide) h.2.2.2.2.2.1, rR_f hX hM (by decide) h.2.2.2.2.2.2.1, rH_f hX hM (by decide) h.2.2.2.2.2.2.2⟩
theorem zR_TL (hX : eS [0, 1] [] [11] X X1) (hM : eS [0, 1] [2, 3] [] M M1) (h : zR X M) (n : rT X1 M1) (n2 : rL X1 M1) : zR X1 M1 := ⟨n, n2, rS_f hX hM (by decide) h.2.2.1, rC_f hX hM (by decide) h.2.2.2.1, rW_f hX hM (by decide) h.2.2.2.2.1, rF_f hX hM (by decide) h.2.2.2.2.2.1, rR_f hX hM (by decide) h.2.2.2.2.2.2.1, rH_f hX hM (by decide) h.2.2.2.2.2.2.2⟩
theorem zR_S (hX : eS [4, 5, 6] [15, 16, 17] [] X X1) (hM : eS [2, 3, 4] [7, 8, 9] [] M M1) (h : zR X M) (n : rS X1 M1) : zR X1 M1 := ⟨rT_f hX hM (by decide) h.1, rL_f hX hM (by decide) h.2.1, n, rC_f hX hM (by decide) h.2.2.2.1, rW_f hX hM (by decide) h.2.2.2.2.1, rF_f hX hM (by decide) h.2.2.2.2.2.1, rR_f hX hM (by decide) h.2.2.2.2.2.2.1, rH_f hX hM (by decide) h.2.2.2.2.2.2.2⟩
theorem zR_C (hX : eS [] [38, 39, 40, 41] [] X X1) (hM : eS [] [10] [] M M1) (h : zR X M) (n : rC X1 M1) : zR X1 M1 := ⟨rT_f hX hM (by decide) h.1, rL_f hX hM (by decide) h.2.1, rS_f hX hM (by decide) h.2.2.1, n, rW_f hX hM (by decide) h.2.2.2.2.1, rF_f hX hM (by decide) h.2.2.2.2.2.1, rR_f hX hM (by decide) h.2.2.2.2.2.2.1, rH_f hX hM (by decide) h.2.2.2.2.2.2.2⟩
theorem zR_W (hX : eS [7] [19, 20] [] X X1) (hM : eS [5] [11, 12] [] M M1) (h : zR X M) (n : rW X1 M1) : zR X1 M1 := ⟨rT_f hX hM (by decide) h.1, rL_f hX hM (by decide) h.2.1, rS_f hX hM (by decide) h.2.2.1, rC_f hX hM (by decide) h.2.2.2.1, n, rF_f hX hM (by decide) h.2.2.2.2.2.1, rR_f hX hM (by decide) h.2.2.2.2.2.2.1, rH_f hX hM (by decide) h.2.2.2.2.2.2.2⟩
theorem zR_F (hX : eS [] [21] [] X X1) (hM : eS [] [13] [] M M1) (h : zR X M) (n : rF X1 M1) : zR X1 M1 := ⟨rT_f hX hM (by decide) h.1, rL_f hX hM (by decide) h.2.1, rS_f hX hM (by decide) h.2.2.1, rC_f hX hM (by decide) h.2.2.2.1, rW_f hX hM (by decide) h.2.2.2.2.1, n, rR_f hX hM (by decide) h.2.2.2.2.2.2.1, rH_f hX hM (by decide) h.2.2.2.2.2.2.2⟩
theorem zR_R (hX : eS [8] [22] [] X X1) (hM : eS [6] [14] [] M M1) (h : zR X M) (n : rR X1 M1) : zR X1 M1 := ⟨rT_f hX hM (by decide) h.1, rL_f hX hM (by decide) h.2.1, rS_f hX hM (by decide) h.2.2.1, rC_f hX hM (by decide) h.2.2.2.1, rW_f hX hM (by decide) h.2.2.2.2.1, rF_f hX hM (by decide) h.2.2.2.2.2.1, n, rH_f hX hM (by decide) h.2.2.2.2.2.2.2⟩
theorem zR_H (hX : eS [9] [24, 25, 42, 43, 44, 45] [] X X1) (hM : eS [7] [15, 16, 17, 18, 19] [] M M1) (h : zR X M) (n : rH X1 M1) : zR X1 M1 := ⟨rT_f hX hM (by decide) h.1, rL_f hX hM (by decide) h.2.1, rS_f hX hM (by decide) h.2.2.1, rC_f hX hM (by decide) h.2.2.2.1, rW_f hX hM (by decide) h.2.2.2.2.1, rF_f hX hM (by decide) h.2.2.2.2.2.1, rR_f hX hM (by decide) h.2.2.2.2.2.2.1, n⟩
end ZM
theorem i01 : ¬ ((1 : Int32) = 0) := by decide
theorem nI_ne {a b : Nat} (h : a ≠ b) (ha : a < 2 ^ 31) (hb : b < 2 ^ 31) : ¬ nI a = nI b := fun e => h ((nI_eq ha hb).mp e)
theorem a_type : ag_type zR := by
  intro SX SM a1 hR
  unfold F_X10_type F_X11_type
  rw [p_out, p_in]
  by_cases h : (0 : Int32) ≤ a1 ∧ a1 ≤ 255
  · obtain ⟨v, -, hv, rfl⟩ := rng 0 255 rfl rfl (by decide) (by decide) h
    rw [if_pos h, if_pos h, Option.bind_some, Option.bind_some, if_pos rfl, if_neg i01]
    have hR' := hR
    obtain ⟨⟨t, ht, e1, e2, hb⟩, -⟩ := hR'
    unfold F_X8_append
    by_cases h4 : t < 40
    · rw [e1, e2, if_pos (show nI _ < (40 : Int32) from nI_lt (b := 40) h4 (by decide)), if_neg (show ¬ nI _ = (40 : Int32) from nI_ne (b := 40) (by omega) (by omega) (by decide)), ibd_nI h4 (by decide), ibd_nI h4 (by decide)]
      simp only [lt, b2_some, zI_sI, zI_sA, e1, e2, if_true]
      refine ⟨_, _, _, rfl, rfl, zR_T (eS_I (eS_A (eS_r _ _ _ SX) 10 _ (by decide)) 0 _ (by decide)) (eS_I (eS_A (eS_r _ _ _ SM) 1 _ (by decide)) 0 _ (by decide)) hR ⟨t + 1, by omega, by rw [zI_sI, if_pos rfl, nI_1], by rw [zI_sI, if_pos rfl, nI_1], fun i hi => ?_⟩⟩
      rw [zA_sI, zA_sI, zA_sA, zA_sA, if_pos rfl, if_pos rfl, nIN (by omega)]
      by_cases hit : i = t
      · subst hit
        exact ⟨v, by omega, upd_s _ _ _, upd_s _ _ _⟩
      · rw [upd_n _ _ hit, upd_n _ _ hit]
        exact hb i (by omega)
    · have e : t = 40 := by omega
      subst e
      rw [e1, e2, if_neg (by decide), if_pos (show nI 40 = (40 : Int32) from rfl)]
      exact ⟨_, _, _, rfl, rfl, hR⟩
  · rw [if_neg h, if_neg h, Option.bind_some, Option.bind_some, if_neg i01, if_pos rfl]
    exact ⟨_, _, _, rfl, rfl, hR⟩
theorem a_wipe : ag_wipe zR := by
  intro SX SM hR
  have hR' := hR
  obtain ⟨⟨t, ht, e1, e2, hb⟩, -⟩ := hR'
  refine ⟨nI t, _, _, by rw [← e1]; rfl, by rw [← e2]; rfl, zR_T (eS_I (eS_r _ _ _ SX) 0 _ (by decide)) (eS_I (eS_r _ _ _ SM) 0 _ (by decide)) hR ⟨0, by omega, rfl, rfl, fun i hi => by omega⟩⟩
theorem a_asOf : ag_asOf zR := by
  intro SX SM a1 hR
  unfold F_X10_asOf F_X11_asOf
  rw [p_out, p_in]
  by_cases h : (0 : Int32) ≤ a1 ∧ a1 ≤ 999
  · obtain ⟨v, -, hv, rfl⟩ := rng 0 999 rfl rfl (by decide) (by decide) h
    rw [if_pos h, if_pos h, Option.bind_some, Option.bind_some, if_pos rfl, if_neg i01]
    have hR' := hR
    obtain ⟨-, -, ⟨n, now, sf, h1, h2, h3, e1, e2, e3, e4, e5, e6, hb⟩, -⟩ := hR'
    unfold F_X7_lookFrom
    simp only [lt, b2_some, e5, e6]
    exact ⟨_, _, _, rfl, rfl, zR_S (eS_I (eS_r _ _ _ SX) 6 _ (by decide)) (eS_I (eS_r _ _ _ SM) 4 _ (by decide)) hR ⟨n, now, v, h1, h2, hv, e1, e2, e3, e4, rfl, rfl, hb⟩⟩
  · rw [if_neg h, if_neg h, Option.bind_some, Option.bind_some, if_neg i01, if_pos rfl]
    exact ⟨_, _, _, rfl, rfl, hR⟩
theorem a_piece : ag_piece zR := by
  intro SX SM a1 hR
  unfold F_X10_piece F_X11_piece
  rw [p_out, p_in]
  by_cases h : (1 : Int32) ≤ a1 ∧ a1 ≤ 20
  · obtain ⟨v, hv0, hv, rfl⟩ := rng 1 20 rfl rfl (by decide) (by decide) h
    rw [if_pos h, if_pos h, Option.bind_some, Option.bind_some, if_pos rfl, if_neg i01]
    have hR' := hR
    obtain ⟨-, -, -, -, -, -, ⟨n, len, h1, e1, e2, hb⟩, -⟩ := hR'
    unfold F_X4_lengthen
    by_cases h4 : n < 8
    · rw [e1, e2, if_pos (show nI _ < (8 : Int32) from nI_lt (b := 8) h4 (by decide)), if_neg (show ¬ nI _ = (8 : Int32) from nI_ne (b := 8) (by omega) (by omega) (by decide)), ibd_nI h4 (by decide), ibd_nI h4 (by decide)]
      simp only [lt, b2_some, zI_sI, zI_sA, e1, e2, if_true]
      refine ⟨_, _, _, rfl, rfl, zR_R (eS_I (eS_A (eS_r _ _ _ SX) 22 _ (by decide)) 8 _ (by decide)) (eS_I (eS_A (eS_r _ _ _ SM) 14 _ (by decide)) 6 _ (by decide)) hR ⟨n + 1, fun i => if i = n then v else len i, by omega, by rw [zI_sI, if_pos rfl, nI_1], by rw [zI_sI, if_pos rfl, nI_1], fun i hi => ?_⟩⟩
      rw [zA_sI, zA_sI, zA_sA, zA_sA, if_pos rfl, if_pos rfl, nIN (by omega)]
      by_cases hit : i = n
      · subst hit
        dsimp only
        rw [if_pos rfl]
        exact ⟨hv0, hv, upd_s _ _ _, upd_s _ _ _⟩
      · dsimp only
        rw [upd_n _ _ hit, upd_n _ _ hit, if_neg hit]
        exact hb i (by omega)
    · have e : n = 8 := by omega
      subst e
      rw [e1, e2, if_neg (by decide), if_pos (show nI 8 = (8 : Int32) from rfl)]
      exact ⟨_, _, _, rfl, rfl, hR⟩
  · rw [if_neg h, if_neg h, Option.bind_some, Option.bind_some, if_neg i01, if_pos rfl]
    exact ⟨_, _, _, rfl, rfl, hR⟩
theorem a_snap : ag_snap zR := by
  intro SX SM hR
  have hR' := hR
  obtain ⟨-, -, -, -, -, -, ⟨n, len, h1, e1, e2, hb⟩, -⟩ := hR'
  exact ⟨nI n, _, _, by rw [← e1]; rfl, by rw [← e2]; rfl, zR_R (eS_I (eS_r _ _ _ SX) 8 _ (by decide)) (eS_I (eS_r _ _ _ SM) 6 _ (by decide)) hR ⟨0, fun _ => 0, by omega, rfl, rfl, fun i hi => by omega⟩⟩
theorem p_end (f a2 : Int32) : F_X10_cannotEnd f a2 = some (if f ≤ a2 ∧ a2 ≤ zmin 99 (f + 19) then 0 else 1) := by
  unfold F_X10_cannotEnd
  rw [p_out, Option.bind_some]
  by_cases h : f ≤ a2 ∧ a2 ≤ zmin 99 (f + 19)
  · rw [if_pos h]; rfl
  · rw [if_neg h]; rfl
theorem p_zmin {f : Nat} (hf : f ≤ 99) : zmin 99 (nI f + 19) = nI (min 99 (f + 19)) := by
  unfold zmin
  have e : nI f + 19 = nI (f + 19) := nI_add f 19
  rw [e]
  by_cases h : f + 19 < 99
  · rw [if_pos (show nI _ < (99 : Int32) from nI_lt (b := 99) h (by decide)), Nat.min_eq_right (by omega)]
  · rw [if_neg (show ¬ nI (f + 19) < (99 : Int32) from nI_nlt (b := 99) (by omega) (by omega)), Nat.min_eq_left (by omega)]
    rfl
/-- the end of a stay: alike on both sides -/
theorem p_span {f : Nat} (hf : f ≤ 99) (a2 : Int32) : (nI f ≤ a2 ∧ a2 ≤ zmin 99 (nI f + 19)) ↔ (nI f ≤ a2 ∧ a2 ≤ 99) ∧ a2 - nI f ≤ 19 := by
  rw [p_zmin hf]
  constructor
  · intro h
    obtain ⟨j, h1, h2, rfl⟩ := rng f (min 99 (f + 19)) rfl rfl (by omega) (by omega) h
    refine ⟨rng' (b := 99) h1 (by omega) (by decide), ?_⟩
    rw [pk_sub h1]
    exact nI_le (b := 19) (by omega) (by decide)
  · rintro ⟨h, h3⟩
    obtain ⟨j, h1, h2, rfl⟩ := rng f 99 rfl rfl (by omega) (by omega) h
    rw [pk_sub h1] at h3
    have h4 : j - f ≤ 19 := (nI_leI (b := 19) (by omega) (by decide)).mp h3
    exact rng' h1 (by omega) (by omega)
theorem a_stay : ag_stay zR := by
  intro SX SM a1 a2 hR
  unfold F_X10_stay F_X11_stay
  rw [p_out, p_in]
  by_cases h : (0 : Int32) ≤ a1 ∧ a1 ≤ 99
  · obtain ⟨f, -, hf, rfl⟩ := rng 0 99 rfl rfl (by decide) (by decide) h
    rw [if_pos h, if_pos h, Option.bind_some, Option.bind_some, if_pos rfl, if_neg i01, p_end, p_in, Option.bind_some, Option.bind_some]
    by_cases h2 : nI f ≤ a2 ∧ a2 ≤ zmin 99 (nI f + 19)
    · have h2' := (p_span hf a2).mp h2
      rw [if_pos h2, if_pos h2'.1, if_pos rfl, if_neg i01, if_pos h2'.2]
      obtain ⟨j, h3, h4, rfl⟩ := rng f 99 rfl rfl (by omega) (by omega) h2'.1
      have h5 : j ≤ f + 19 := by
        have h6 := h2'.2
        rw [pk_sub h3] at h6
        have := (nI_leI (a := j - f) (b := 19) (by omega) (by decide)).mp h6
        omega
      have hR' := hR
      obtain ⟨-, -, -, -, ⟨n, h1, e1, e2, hb⟩, -⟩ := hR'
      unfold F_X9_admit
      by_cases h7 : n < 24
      · rw [e1, e2, if_pos (show nI _ < (24 : Int32) from nI_lt (b := 24) h7 (by decide)), if_neg (show ¬ nI _ = (24 : Int32) from nI_ne (b := 24) (by omega) (by omega) (by decide)), ibd_nI h7 (by decide), ibd_nI h7 (by decide)]
        simp only [lt, b2_some, zI_sI, zI_sA, e1, e2, if_true, ibd_nI h7 (show 24 < 2 ^ 31 by decide)]
        refine ⟨_, _, _, rfl, rfl, zR_W (eS_I (eS_A (eS_A (eS_r _ _ _ SX) 19 _ (by decide)) 20 _ (by decide)) 7 _ (by decide)) (eS_I (eS_A (eS_A (eS_r _ _ _ SM) 11 _ (by decide)) 12 _ (by decide)) 5 _ (by decide)) hR ⟨n + 1, by omega, by rw [zI_sI, if_pos rfl, nI_1], by rw [zI_sI, if_pos rfl, nI_1], fun i hi => ?_⟩⟩
        simp only [zA_sI, zA_sA, nIN (show n < 2 ^ 31 by omega), if_true, show ¬ (19 : Nat) = 20 by decide, show ¬ (11 : Nat) = 12 by decide, show ¬ (20 : Nat) = 19 by decide, show ¬ (12 : Nat) = 11 by decide, if_false]
        by_cases hit : i = n
        · subst hit
          exact ⟨f, j, h3, h4, h5, upd_s _ _ _, upd_s _ _ _, upd_s _ _ _, upd_s _ _ _⟩
        · rw [upd_n _ _ hit, upd_n _ _ hit, upd_n _ _ hit, upd_n _ _ hit]
          exact hb i (by omega)
      · have e : n = 24 := by omega
        subst e
        rw [e1, e2, if_neg (by decide), if_pos (show nI 24 = (24 : Int32) from rfl)]
        exact ⟨_, _, _, rfl, rfl, hR⟩
    · have h2' : ¬ ((nI f ≤ a2 ∧ a2 ≤ 99) ∧ a2 - nI f ≤ 19) := fun q => h2 ((p_span hf a2).mpr q)
      rw [if_neg h2, if_neg i01]
      by_cases h8 : nI f ≤ a2 ∧ a2 ≤ 99
      · rw [if_pos h8, if_neg i01, if_neg (fun q => h2' ⟨h8, q⟩)]
        exact ⟨_, _, _, rfl, rfl, hR⟩
      · rw [if_neg h8, if_pos rfl]
        exact ⟨_, _, _, rfl, rfl, hR⟩
  · rw [if_neg h, if_neg h, Option.bind_some, Option.bind_some, if_neg i01, if_pos rfl]
    exact ⟨_, _, _, rfl, rfl, hR⟩
