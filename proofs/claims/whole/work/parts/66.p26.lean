-- a part of the text, the whole text
def tl (f : Nat) (S : zSt) : Option (Int32 × zSt) := if zI S 1 = zI S 0 then some (-1, S) else (F_X11_byteAt S (zI S 1)).bind (fun r => if r = 44 then L_X11_faultNow_26 f (sI S 1 (zI S 1 + 1)) else some (zI S 1, S))
theorem nI_a (a : Nat) : (1 : Int32) ≤ nI a ∧ nI a ≤ 59 ↔ (1 ≤ a ∧ a ≤ 59) ∨ 2 ^ 31 ≤ a ∧ ((1 : Int32) ≤ nI a ∧ nI a ≤ 59) := by
  by_cases h : a < 2 ^ 31
  · constructor
    · intro q
      exact Or.inl ⟨(nI_leI (a := 1) (by decide) h).mp q.1, (nI_leI (b := 59) h (by decide)).mp q.2⟩
    · rintro (q | q)
      · exact rng' (a := 1) (b := 59) q.1 q.2 (by decide)
      · exact q.2
  · exact ⟨fun q => Or.inr ⟨by omega, q⟩, fun q => by
      rcases q with q | q
      · omega
      · exact q.2⟩
theorem t_part {X M : zSt} {t p W : Nat} (g : gS X M t p W) : (∃ (r : Int32) (X1 M1 : zSt), F_X8_scanPart X = some (r, X1) ∧ ¬ r = -1 ∧ fX X X1 ∧ fM M M1 ∧ ∀ f, L_X11_faultNow_26 (f + 1) M = some (r, M1)) ∨ ∃ (X1 M1 : zSt) (q W1 : Nat), p < q ∧ F_X8_scanPart X = some (-1, X1) ∧ gS X1 M1 t q W1 ∧ fX X X1 ∧ fM M M1 ∧ ∀ f, L_X11_faultNow_26 (f + 1) M = tl f M1 := by
  have ht := g.1.1
  have hp := g.2.2.2.1
  rcases t_num g with ⟨x1, m1⟩ | ⟨v, q, X1, M1, hv, hpq, hq, fx, fm, g1, x1, m1⟩
  · left
    refine ⟨nI p, X, sI M 1 (nI p), ?_, nI_m1 (by omega), fX_r X, fM_i M _, fun f => ?_⟩
    · refine (F_X8_scanPart.eq_1 X).trans ?_
      refine (lt_eq _ _).trans ?_
      rw [x1, b2_some]
      refine (lt_eq _ _).trans ?_
      rw [p_out, if_neg (by decide), Option.bind_some, if_neg i01, g.2.1]
    · rw [L_X11_faultNow_26, m1, b2_some]
      refine (lt_eq _ _).trans ?_
      rw [if_pos rfl, zI_sI, if_pos rfl]
  · by_cases h : v ≤ 59
    · have h0 : (0 : Int32) ≤ nI v ∧ nI v ≤ 59 := rng' (a := 0) (b := 59) (by omega) h (by decide)
      have hb := s_a g1
      have hb' := s_b g1
      by_cases h43 : bY' M1 t q = 43
      · have hqt : q < t := by
          apply Classical.byContradiction
          intro z
          rw [(b_m1 g1.1).mpr z] at h43
          exact absurd h43 (by decide)
        have g2 := gS_p g1 (q := q + 1) (by omega)
        have pre1 : ∀ f, L_X11_faultNow_26 (f + 1) M = b2 (F_X11_number (sI M1 1 (nI (q + 1))) 1) (fun r S => if r = -1 then some (zI S 1, S) else L_X11_faultNow_86 r (tl f) 1000 S (nI v)) := fun f => by
          rw [L_X11_faultNow_26, m1, if_pos h0, b2_some]
          refine (lt_eq _ _).trans ?_
          rw [if_neg (nI_m1 (by omega))]
          refine (lt_eq _ _).trans ?_
          rw [g1.2.2.1, hb', Option.bind_some]
          refine (jn_eq _ _).trans ?_
          rw [if_pos h43]
          refine (lt_eq _ _).trans ?_
          rw [nI_1]
          rfl
        have pre2 : F_X8_scanPart X = b2 (F_X8_scanNumber (sI X1 1 (nI (q + 1)))) (fun r S => if (1 : Int32) ≤ r ∧ r ≤ 59 then L_X8_scanPart_80 r (fun S => some (-1, S)) 1000 S (nI v) else some (nI (q + 1), S)) := by
          refine (F_X8_scanPart.eq_1 X).trans ?_
          refine (lt_eq _ _).trans ?_
          rw [x1, b2_some]
          refine (lt_eq _ _).trans ?_
          rw [p_out, if_pos h0, Option.bind_some, if_pos rfl, hb, Option.bind_some, if_pos h43]
          refine (lt_eq _ _).trans ?_
          rw [g1.2.1, nI_1]
          refine (lt_eq _ _).trans ?_
          congr 1
          funext r S
          refine (lt_eq _ _).trans ?_
          rw [p_out, Option.bind_some]
          by_cases z : (1 : Int32) ≤ r ∧ r ≤ 59
          · rw [if_pos z, if_pos rfl, if_pos z]
            rfl
          · rw [if_neg z, if_neg i01, if_neg z]
            rfl
        rcases t_num g2 with ⟨x3, m3⟩ | ⟨s, q2, X3, M3, hs, hq2, hq3, fx3, fm3, g3, x3, m3⟩
        · left
          refine ⟨nI (q + 1), _, _, ?_, nI_m1 (by omega), fX_t fx (fX_i X1 (nI (q + 1))), fM_t fm (fM_t (fM_i M1 (nI (q + 1))) (fM_i _ (nI (q + 1)))), fun f => ?_⟩
          · rw [pre2, x3, b2_some, if_neg (by decide)]
          · rw [pre1, m3, b2_some, if_pos rfl, zI_sI, if_pos rfl]
        · by_cases z : (1 : Int32) ≤ nI s ∧ nI s ≤ 59
          · right
            have zs : 1 ≤ s ∧ s ≤ 59 := by
              rcases (nI_a s).mp z with y | y
              · exact y
              · omega
            obtain ⟨X4, M4, W4, g4, fx4, fm4, e1, e2⟩ := t_stp zs.1 (by omega) (60 - v) v W X3 M3 1000 1000 g3 (by omega) (by omega) (by omega) (by omega)
            refine ⟨X4, M4, q2, W4, by omega, ?_, g4, fX_t fx (fX_t (fX_i X1 (nI (q + 1))) (fX_t fx3 fx4)), fM_t fm (fM_t (fM_i M1 (nI (q + 1))) (fM_t fm3 fm4)), fun f => ?_⟩
            · rw [pre2, x3, b2_some, if_pos z, e1]
            · rw [pre1, m3, if_pos z, b2_some, if_neg (nI_m1 (by omega)), e2]
          · left
            refine ⟨nI (q + 1), _, _, ?_, nI_m1 (by omega), fX_t fx (fX_t (fX_i X1 (nI (q + 1))) fx3), fM_t fm (fM_t (fM_i M1 (nI (q + 1))) (fM_t fm3 (fM_i _ (nI (q + 1))))), fun f => ?_⟩
            · rw [pre2, x3, b2_some, if_neg z]
            · rw [pre1, m3, if_neg z, b2_some, if_pos rfl, zI_sI, if_pos rfl]
      · right
        refine ⟨_, _, q, _, hpq, ?_, t_one g1 (m := v) (by omega), fX_t fx (fX_j X1 _), fM_t fm (fM_a M1 _), fun f => ?_⟩
        · refine (F_X8_scanPart.eq_1 X).trans ?_
          refine (lt_eq _ _).trans ?_
          rw [x1, b2_some]
          refine (lt_eq _ _).trans ?_
          rw [p_out, if_pos h0, Option.bind_some, if_pos rfl, hb, Option.bind_some, if_neg h43]
          rfl
        · rw [L_X11_faultNow_26, m1, if_pos h0, b2_some]
          refine (lt_eq _ _).trans ?_
          rw [if_neg (nI_m1 (by omega))]
          refine (lt_eq _ _).trans ?_
          rw [g1.2.2.1, hb', Option.bind_some]
          refine (jn_eq _ _).trans ?_
          rw [if_neg h43]
          refine (lt_eq _ _).trans ?_
          exact t_60 M1 (by omega) (tl f) 998
    · left
      have h0 : ¬ ((0 : Int32) ≤ nI v ∧ nI v ≤ 59) := fun z => h ((nI_leI (b := 59) (by omega) (by decide)).mp z.2)
      refine ⟨nI p, X1, sI M1 1 (nI p), ?_, nI_m1 (by omega), fx, fM_t fm (fM_i M1 _), fun f => ?_⟩
      · refine (F_X8_scanPart.eq_1 X).trans ?_
        refine (lt_eq _ _).trans ?_
        rw [x1, b2_some]
        refine (lt_eq _ _).trans ?_
        rw [p_out, if_neg h0, Option.bind_some, if_neg i01, g.2.1]
      · rw [L_X11_faultNow_26, m1, if_neg h0, b2_some]
        refine (lt_eq _ _).trans ?_
        rw [if_pos rfl, zI_sI, if_pos rfl]
theorem t_scan {t : Nat} : ∀ (n : Nat) (X M : zSt) (p W c f f' : Nat), gS X M t p W → t - p ≤ n → c ≤ p → n < f → n < f' → ∃ (r : Int32) (X1 M1 : zSt), L_X8_scan_12 (fun S => some (zI S 1, S)) f X (nI c) = some (r, X1) ∧ L_X11_faultNow_26 f' M = some (r, M1) ∧ fX X X1 ∧ fM M M1 ∧ (r = -1 → ∃ q W1 : Nat, gS X1 M1 t q W1) := by
  intro n
  induction n with
  | zero =>
    intro X M p W c f f' g h1 h2 h3 h4
    have ht := g.1.1
    have hp := g.2.2.2.1
    obtain ⟨f, rfl⟩ : ∃ a, f = a + 1 := ⟨f - 1, by omega⟩
    obtain ⟨f', rfl⟩ : ∃ a, f' = a + 1 := ⟨f' - 1, by omega⟩
    rw [L_X8_scan_12, if_neg (show ¬ (40 : Int32) < nI c from nI_nlt (b := c) (a := 40) (by omega) (by decide))]
    rcases t_part g with ⟨r, X1, M1, e1, hr, fx, fm, e2⟩ | ⟨X1, M1, q, W1, hq, e1, g1, fx, fm, e2⟩
    · refine ⟨r, X1, M1, ?_, e2 f', fx, fm, fun z => absurd z hr⟩
      rw [e1, b2_some]
      refine (lt_eq _ _).trans ?_
      rw [if_neg hr]
    · have := g1.2.2.2.1
      omega
  | succ n ih =>
    intro X M p W c f f' g h1 h2 h3 h4
    have ht := g.1.1
    have hp := g.2.2.2.1
    obtain ⟨f, rfl⟩ : ∃ a, f = a + 1 := ⟨f - 1, by omega⟩
    obtain ⟨f', rfl⟩ : ∃ a, f' = a + 1 := ⟨f' - 1, by omega⟩
    rw [L_X8_scan_12, if_neg (show ¬ (40 : Int32) < nI c from nI_nlt (b := c) (a := 40) (by omega) (by decide))]
    rcases t_part g with ⟨r, X1, M1, e1, hr, fx, fm, e2⟩ | ⟨X1, M1, q, W1, hq, e1, g1, fx, fm, e2⟩
    · refine ⟨r, X1, M1, ?_, e2 f', fx, fm, fun z => absurd z hr⟩
      rw [e1, b2_some]
      refine (lt_eq _ _).trans ?_
      rw [if_neg hr]
    · have hqt := g1.2.2.2.1
      rw [e1, b2_some, e2 f']
      unfold tl
      rw [g1.2.2.1, g1.1.2.2.1, s_b g1]
      simp only [lt, if_true, s_a g1, Option.bind_some]
      by_cases h : q < t
      · rw [if_neg (fun z => ((b_m1 g1.1).mp z) h), if_neg (nI_ne (by omega) (by omega) (by omega)), g1.2.1]
        by_cases h44 : bY' M1 t q = 44
        · rw [if_pos h44, if_pos h44, nI_1, nI_1]
          obtain ⟨r, X2, M2, e3, e4, fx2, fm2, z⟩ := ih _ _ (q + 1) W1 (c + 1) f f' (gS_p g1 (q := q + 1) (by omega)) (by omega) (by omega) (by omega) (by omega)
          exact ⟨r, X2, M2, e3, e4, fX_t fx (fX_t (fX_i X1 _) fx2), fM_t fm (fM_t (fM_i M1 _) fm2), z⟩
        · rw [if_neg h44, if_neg h44]
          exact ⟨_, _, _, rfl, rfl, fx, fm, fun z => absurd z (nI_m1 (by omega))⟩
      · have e : q = t := by omega
        rw [if_pos ((b_m1 g1.1).mpr h), if_pos (by rw [e])]
        exact ⟨_, _, _, rfl, rfl, fx, fm, fun _ => ⟨q, W1, g1⟩⟩
theorem t_zero (M : zSt) (k : zSt → Option (Int32 × zSt)) : L_X11_faultNow_2 k 1000 M 0 = k (itS (fun i S => sA S 2 (upd (zA S 2) i 0)) M 60) := by
  refine loopN (L := fun f (q : zSt × Int32) => L_X11_faultNow_2 k f q.1 q.2) (st := fun i => (itS (fun i S => sA S 2 (upd (zA S 2) i 0)) M i, nI i)) 60 _ (fun f => ?_) (fun f i hi => ?_) 1000 0 (by omega) (by omega)
  · show L_X11_faultNow_2 k (f + 1) _ (nI 60) = _
    rw [L_X11_faultNow_2, if_pos (by decide)]
  · show L_X11_faultNow_2 k (f + 1) (itS (fun i S => sA S 2 (upd (zA S 2) i 0)) M i) (nI i) = L_X11_faultNow_2 k f (sA (itS (fun i S => sA S 2 (upd (zA S 2) i 0)) M i) 2 (upd (zA (itS (fun i S => sA S 2 (upd (zA S 2) i 0)) M i) 2) i 0)) (nI (i + 1))
    rw [L_X11_faultNow_2, if_neg (show ¬ (60 : Int32) ≤ nI i from nI_ge (b := 60) hi (by decide)), ibd_nI hi (by decide), nIN (by omega)]
    simp only [lt, nI_1]
theorem t_all {X M : zSt} (hR : zR X M) : ∃ (r : Int32) (X1 M1 : zSt), F_X8_scan X = some (r, X1) ∧ F_X11_faultNow M = some (r, M1) ∧ fX X X1 ∧ fM M M1 ∧ (r = -1 → ∃ t q W : Nat, gS X1 M1 t q W) := by
  obtain ⟨t, gt⟩ := hR.1
  have g0 : gT X M t := gt
  have fx : fX X (sJ (sI X 1 0) 0 0) := fX_t (fX_i X 0) (fX_j _ 0)
  have fm1 : fM M (itS (fun i S => sA S 2 (upd (zA S 2) i 0)) M 60) := itS_eS (fun i S => fM_a S _) M 60
  have fm : fM M (sI (itS (fun i S => sA S 2 (upd (zA S 2) i 0)) M 60) 1 0) := fM_t fm1 (fM_i _ 0)
  have g : gS (sJ (sI X 1 0) 0 0) (sI (itS (fun i S => sA S 2 (upd (zA S 2) i 0)) M 60) 1 0) t 0 0 := by
    refine ⟨gT_f fx fm g0, rfl, rfl, Nat.zero_le _, rfl, by decide, fun m hm => ?_⟩
    rw [zA_sI, itX0, if_pos hm]
    unfold bt
    rw [Nat.zero_testBit]
    rfl
  have ht := g0.1
  obtain ⟨r, X1, M1, e1, e2, fx2, fm2, z⟩ := t_scan t _ _ 0 0 0 1000 1000 g (by omega) (by omega) (by omega) (by omega)
  refine ⟨r, X1, M1, ?_, ?_, fX_t fx fx2, fM_t fm fm2, fun y => ?_⟩
  · refine (F_X8_scan.eq_1 X).trans ?_
    refine (lt_eq _ _).trans ?_
    refine (lt_eq _ _).trans ?_
    refine (lt_eq _ _).trans ?_
    exact e1
  · refine (F_X11_faultNow.eq_1 M).trans ?_
    refine (lt_eq _ _).trans ?_
    refine (t_zero M _).trans ?_
    refine (lt_eq _ _).trans ?_
    exact e2
  · obtain ⟨q, W1, h⟩ := z y
    exact ⟨t, q, W1, h⟩
theorem fX_s {X X1 : zSt} (h : fX X X1) : eS [1, 2, 3] [12, 13, 26, 27, 28, 29, 30, 31, 32, 33, 34, 35, 36, 37] [] X X1 := eS_w h (by simp) (by simp) (by simp)
theorem fM_s {X X1 : zSt} (h : fM X X1) : eS [1] [2, 4, 5, 6, 19] [] X X1 := eS_w h (by simp) (by simp) (by simp)
theorem t_flt {X M : zSt} (hR : zR X M) : ∃ (r : Int32) (X1 M1 : zSt), F_X10_fault X = some (r, X1) ∧ F_X11_faultNow M = some (r, M1) ∧ zR X1 M1 := by
  obtain ⟨r, X1, M1, e1, e2, fx, fm, -⟩ := t_all hR
  refine ⟨r, X1, M1, ?_, e2, zR_scr (fX_s fx) (fM_s fm) hR⟩
  unfold F_X10_fault
  rw [e1]
  rfl
theorem a_fault : ag_fault zR := by
  intro X M hR
  obtain ⟨r, X1, M1, e1, e2, h⟩ := t_flt hR
  refine ⟨r, X1, M1, e1, ?_, h⟩
  unfold F_X11_fault
  rw [e2]
  rfl
theorem l_it (M : zSt) (b : Nat) : ∀ n, zA (itS (fun i S => sA S 3 (upd (zA S 3) (b + i) (zA S 2 i))) M n) 2 = zA M 2 ∧ ∀ j, zA (itS (fun i S => sA S 3 (upd (zA S 3) (b + i) (zA S 2 i))) M n) 3 j = if b ≤ j ∧ j < b + n then zA M 2 (j - b) else zA M 3 j
  | 0 => ⟨rfl, fun j => by rw [if_neg (by omega)]; rfl⟩
  | n + 1 => by
    obtain ⟨h1, h2⟩ := l_it M b n
    refine ⟨?_, fun j => ?_⟩
    · show zA (sA _ 3 _) 2 = _
      rw [zA_sA, if_neg (by decide)]
      exact h1
    · show zA (sA _ 3 (upd (zA (itS (fun i S => sA S 3 (upd (zA S 3) (b + i) (zA S 2 i))) M n) 3) (b + n) (zA (itS (fun i S => sA S 3 (upd (zA S 3) (b + i) (zA S 2 i))) M n) 2 n))) 3 j = _
      rw [zA_sA, if_pos rfl, h1]
      by_cases h : j = b + n
      · rw [h, upd_s, if_pos (by omega), show b + n - b = n by omega]
      · rw [upd_n _ _ h, h2]
        by_cases h3 : b ≤ j ∧ j < b + n
        · rw [if_pos h3, if_pos (by omega)]
        · rw [if_neg h3, if_neg (by omega)]
theorem l_loop (M : zSt) {l : Nat} (hl : l < 2) (k : zSt → Option (Int32 × zSt)) : L_X11_line_25 (nI l) k 1000 M 0 = k (itS (fun i S => sA S 3 (upd (zA S 3) (60 * l + i) (zA S 2 i))) M 60) := by
  refine loopN (L := fun f (q : zSt × Int32) => L_X11_line_25 (nI l) k f q.1 q.2) (st := fun i => (itS (fun i S => sA S 3 (upd (zA S 3) (60 * l + i) (zA S 2 i))) M i, nI i)) 60 _ (fun f => ?_) (fun f i hi => ?_) 1000 0 (by omega) (by omega)
  · show L_X11_line_25 (nI l) k (f + 1) _ (nI 60) = _
    rw [L_X11_line_25, if_pos (by decide)]
  · show L_X11_line_25 (nI l) k (f + 1) (itS (fun i S => sA S 3 (upd (zA S 3) (60 * l + i) (zA S 2 i))) M i) (nI i) = L_X11_line_25 (nI l) k f (sA (itS (fun i S => sA S 3 (upd (zA S 3) (60 * l + i) (zA S 2 i))) M i) 3 (upd (zA (itS (fun i S => sA S 3 (upd (zA S 3) (60 * l + i) (zA S 2 i))) M i) 3) (60 * l + i) (zA (itS (fun i S => sA S 3 (upd (zA S 3) (60 * l + i) (zA S 2 i))) M i) 2 i))) (nI (i + 1))
    rw [L_X11_line_25, if_neg (show ¬ (60 : Int32) ≤ nI i from nI_ge (b := 60) hi (by decide)), ibd_nI hi (by decide), e60, ibd_nI (by omega) (by decide), nIN (by omega), nIN (by omega)]
    simp only [lt, nI_1]
theorem a_line : ag_line zR := by
  intro X M a1 hR
  unfold F_X10_line F_X11_line
  rw [p_out, p_in]
  by_cases h : (0 : Int32) ≤ a1 ∧ a1 ≤ 1
  · obtain ⟨l, -, hl, rfl⟩ := rng 0 1 rfl rfl (by decide) (by decide) h
    rw [if_pos h, if_pos h, Option.bind_some, Option.bind_some, if_pos rfl, if_neg i01]
    obtain ⟨r, X1, M1, e1, e2, fx, fm, z⟩ := t_all hR
    rw [e1, e2, b2_some, b2_some]
    by_cases hr : r = -1
    · obtain ⟨t, q, W, g⟩ := z hr
      obtain ⟨gt, -, -, -, gj, gw, gm⟩ := g
      rw [if_pos hr, if_pos hr]
      unfold F_X8_minutesScanned F_X6_setLine F_X8_empty
      rw [Option.bind_some, ibd_nI (show l < 2 by omega) (by decide), nIN (by omega), gj]
      simp only [lt, b2_some, Option.bind_some]
      rw [show (0 : Int32) = 0 from rfl, l_loop M1 (by omega)]
      generalize hM2 : itS (fun i S => sA S 3 (upd (zA S 3) (60 * l + i) (zA S 2 i))) M1 60 = M2
      have li := (l_it M1 (60 * l) 60).2
      rw [hM2] at li
      have em : eS [0, 1] [2, 3] [] M1 M2 := by
        rw [← hM2]
        exact itS_eS (fun i S => eS_A (eS_r _ _ _ S) 3 _ (by decide)) M1 60
      have R : zR (sI (sL X1 11 (vp_updL (zL X1 11) l (lN W))) 0 0) (sI M2 0 0) := by
        refine zR_TL (eS_t (eS_w fx (by simp) (by simp) (by simp)) (eS_I (eS_L (eS_r _ _ _ X1) 11 _ (by decide)) 0 _ (by decide))) (eS_t (eS_w fm (by simp) (by simp) (by simp)) (eS_I em 0 _ (by decide))) hR ⟨0, by omega, rfl, rfl, fun i hi => by omega⟩ (fun n hn => ?_)
        rw [zL_sI, zL_sL, if_pos rfl, zA_sI]
        by_cases hnl : n = l
        · subst hnl
          refine ⟨W, gw, pk_uLs, fun m hm => ?_⟩
          rw [li, if_pos (by omega), show 60 * n + m - 60 * n = m by omega, gm m hm]
          unfold bt
          split <;> rfl
        · obtain ⟨w, hw, h1, h2⟩ := hR.2.1 n hn
          refine ⟨w, hw, ?_, fun m hm => ?_⟩
          · rw [pk_uLn hnl, fx.2.2 11 (by decide)]
            exact h1
          · rw [li, if_neg (by omega), fm.2.1 3 (by decide)]
            exact h2 m hm
      obtain ⟨W', g'⟩ := e_gB R.2.1 (w := l) (by omega)
      rw [e_cX g', e_cM g']
      exact ⟨_, _, _, rfl, rfl, R⟩
    · rw [if_neg hr, if_neg hr]
      exact ⟨_, _, _, rfl, rfl, zR_scr (fX_s fx) (fM_s fm) hR⟩
  · rw [if_neg h, if_neg h, Option.bind_some, Option.bind_some, if_neg i01, if_pos rfl]
    exact ⟨_, _, _, rfl, rfl, hR⟩
