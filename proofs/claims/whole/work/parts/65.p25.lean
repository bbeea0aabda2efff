-- the text
def gT (X M : zSt) (t : Nat) : Prop := t ≤ 40 ∧ zI X 0 = nI t ∧ zI M 0 = nI t ∧ ∀ i, i < t → ∃ v : Nat, v < 256 ∧ zA X 10 i = nI v ∧ zA M 1 i = nI v
def gS (X M : zSt) (t p W : Nat) : Prop := gT X M t ∧ zI X 1 = nI p ∧ zI M 1 = nI p ∧ p ≤ t ∧ zJ X 0 = lN W ∧ W < 2 ^ 60 ∧ ∀ m, m < 60 → zA M 2 m = nI (bt W m)
def fX (X X1 : zSt) : Prop := eS [1] [] [] X X1
def fM (M M1 : zSt) : Prop := eS [1] [2] [] M M1
theorem fX_r (X : zSt) : fX X X := eS_r _ _ _ X
theorem fM_r (M : zSt) : fM M M := eS_r _ _ _ M
theorem fX_i (X : zSt) (v : Int32) : fX X (sI X 1 v) := eS_I (eS_r _ _ _ X) 1 _ (by decide)
theorem fM_i (M : zSt) (v : Int32) : fM M (sI M 1 v) := eS_I (eS_r _ _ _ M) 1 _ (by decide)
theorem fX_t {X X1 X2 : zSt} (h : fX X X1) (h2 : fX X1 X2) : fX X X2 := eS_t h h2
theorem fM_t {X X1 X2 : zSt} (h : fM X X1) (h2 : fM X1 X2) : fM X X2 := eS_t h h2
theorem gT_f {X X1 M M1 : zSt} {t : Nat} (hX : fX X X1) (hM : fM M M1) (h : gT X M t) : gT X1 M1 t := by
  unfold gT at *
  rw [hX.1 0 (by decide), hX.2.1 10 (by decide), hM.1 0 (by decide), hM.2.1 1 (by decide)]
  exact h
def bY' (M : zSt) (t p : Nat) : Int32 := if p < t then zA M 1 p else -1
theorem t_a {X M : zSt} {t p : Nat} (g : gT X M t) (e : zI X 1 = nI p) : F_X8_ahead X = some (bY' M t p) ∨ 2 ^ 31 ≤ p := by
  by_cases hp : p < 2 ^ 31
  · left
    unfold F_X8_ahead bY'
    obtain ⟨ht, e1, e2, hb⟩ := g
    rw [e1, e]
    by_cases h : p < t
    · obtain ⟨v, hv, x1, x2⟩ := hb p h
      rw [if_neg (nI_ge h (by omega)), if_pos h, ibd_nI (by omega) (by decide), nIN (by omega), x1, x2]
    · rw [if_pos (nI_le (by omega) (by omega)), if_neg h]
  · right
    omega
theorem s_a {X M : zSt} {t p W : Nat} (g : gS X M t p W) : F_X8_ahead X = some (bY' M t p) := by
  rcases t_a g.1 g.2.1 with h | h
  · exact h
  · have := g.2.2.2.1
    have := g.1.1
    omega
theorem s_b {X M : zSt} {t p W : Nat} (g : gS X M t p W) : F_X11_byteAt M (nI p) = some (bY' M t p) := by
  obtain ⟨⟨ht, e1, e2, hb⟩, -, -, hp, -⟩ := g
  unfold F_X11_byteAt bY'
  rw [e2]
  by_cases h : p < t
  · obtain ⟨v, hv, x1, x2⟩ := hb p h
    rw [if_neg (nI_ge h (by omega)), if_pos h, ibd_nI (by omega) (by decide), nIN (by omega)]
  · rw [if_pos (nI_le (by omega) (by omega)), if_neg h]
theorem b_m1 {X M : zSt} {t p : Nat} (g : gT X M t) : bY' M t p = -1 ↔ ¬ p < t := by
  unfold bY'
  by_cases h : p < t
  · obtain ⟨v, hv, x1, x2⟩ := g.2.2.2 p h
    rw [if_pos h, x2]
    exact ⟨fun q => absurd q (nI_m1 (by omega)), fun q => absurd h q⟩
  · rw [if_neg h]
    exact ⟨fun _ => h, fun _ => rfl⟩
theorem b_dg {X M : zSt} {t p : Nat} (g : gT X M t) (h : (48 : Int32) ≤ bY' M t p ∧ bY' M t p ≤ 57) : p < t ∧ ∃ d, d ≤ 9 ∧ bY' M t p = nI (48 + d) := by
  have hp : p < t := by
    apply Classical.byContradiction
    intro q
    rw [(b_m1 g).mpr q] at h
    exact absurd h.1 (by decide)
  obtain ⟨j, h1, h2, e⟩ := rng 48 57 rfl rfl (by decide) (by decide) h
  exact ⟨hp, j - 48, by omega, by rw [e, show 48 + (j - 48) = j by omega]⟩
theorem gS_p {X M : zSt} {t p W : Nat} (g : gS X M t p W) {q : Nat} (hq : q ≤ t) : gS (sI X 1 (nI q)) (sI M 1 (nI q)) t q W := ⟨gT_f (fX_i _ _) (fM_i _ _) g.1, rfl, rfl, hq, g.2.2.2.2.1, g.2.2.2.2.2.1, g.2.2.2.2.2.2⟩
-- a number: the class
theorem x_n1 {X M : zSt} {t p W c d : Nat} (g : gS X M t p W) (hc : c < 2) (hd : d ≤ 9) (e : bY' M t p = nI (48 + d)) (k : zSt → Int32 → Option (Int32 × zSt)) (f : Nat) (v : Int32) (a : Nat) (hv : zmax v 0 = nI a) : L_X8_scanNumber_4 k (f + 1) X v (nI c) = L_X8_scanNumber_4 k f (sI X 1 (nI (p + 1))) (nI (10 * a + d)) (nI (c + 1)) := by
  have h : (48 : Int32) ≤ nI (48 + d) ∧ nI (48 + d) ≤ 57 := rng' (a := 48) (b := 57) (by omega) (by omega) (by decide)
  rw [L_X8_scanNumber_4, if_neg (show ¬ (2 : Int32) ≤ nI c from nI_ge (b := 2) hc (by decide)), s_a g, e, Option.bind_some, p_out, if_pos h, hv, g.2.1]
  simp only [lt, Option.bind_some, if_true, nI_1]
  have e2 : (10 : Int32) * nI a + nI (48 + d) - 48 = nI (10 * a + d) := by
    rw [show (10 : Int32) = nI 10 from rfl, pk_mul, nI_add, show (48 : Int32) = nI 48 from rfl, pk_sub (by omega), show 10 * a + (48 + d) - 48 = 10 * a + d by omega]
  rw [e2]
theorem x_n0 {X M : zSt} {t p W : Nat} (g : gS X M t p W) (h : ¬ ((48 : Int32) ≤ bY' M t p ∧ bY' M t p ≤ 57)) (k : zSt → Int32 → Option (Int32 × zSt)) (f : Nat) (v c : Int32) : L_X8_scanNumber_4 k (f + 1) X v c = k X v := by
  rw [L_X8_scanNumber_4, s_a g, Option.bind_some, p_out, if_neg h]
  simp only [Option.bind_some, if_neg i01, ite_self]
theorem x_n2 (X : zSt) (k : zSt → Int32 → Option (Int32 × zSt)) (f : Nat) (v : Int32) : L_X8_scanNumber_4 k (f + 1) X v (nI 2) = k X v := by
  rw [L_X8_scanNumber_4, if_pos (by decide)]
-- a number: the model
theorem m_n1 {X M : zSt} {t p W q d : Nat} (g : gS X M t p W) (hq0 : q ≤ p) (hq : p < q + 2) (hd : d ≤ 9) (e : bY' M t p = nI (48 + d)) (a1 : Int32) (k : zSt → Int32 → Option (Int32 × zSt)) (f a : Nat) : L_X11_number_7 a1 (nI q) k (f + 1) M (nI a) = L_X11_number_7 a1 (nI q) k f (sI M 1 (nI (p + 1))) (nI (10 * a + d)) := by
  have h : (48 : Int32) ≤ nI (48 + d) ∧ nI (48 + d) ≤ 57 := rng' (a := 48) (b := 57) (by omega) (by omega) (by decide)
  have ht := g.1.1
  have hp := g.2.2.2.1
  by_cases hq2 : q < 100
  · rw [L_X11_number_7, g.2.2.1, show nI q + 2 = nI (q + 2) from nI_add q 2, if_neg (nI_ge (by omega) (by omega)), s_b g, e]
    simp only [lt, Option.bind_some, nI_1]
    rw [if_neg (Int32.not_lt.mpr h.1), if_neg (Int32.not_lt.mpr h.2)]
    have e2 : (10 : Int32) * nI a + nI (48 + d) - 48 = nI (10 * a + d) := by
      rw [show (10 : Int32) = nI 10 from rfl, pk_mul, nI_add, show (48 : Int32) = nI 48 from rfl, pk_sub (by omega), show 10 * a + (48 + d) - 48 = 10 * a + d by omega]
    rw [e2]
  · omega
theorem m_n0 {X M : zSt} {t p W : Nat} (g : gS X M t p W) (h : ¬ ((48 : Int32) ≤ bY' M t p ∧ bY' M t p ≤ 57)) (a1 q : Int32) (k : zSt → Int32 → Option (Int32 × zSt)) (f : Nat) (v : Int32) : L_X11_number_7 a1 q k (f + 1) M v = k M v := by
  rw [L_X11_number_7, g.2.2.1, s_b g]
  simp only [Option.bind_some]
  by_cases h1 : bY' M t p < 48
  · rw [if_pos h1, ite_self]
  · by_cases h2 : (57 : Int32) < bY' M t p
    · rw [if_neg h1, if_pos h2, ite_self]
    · exact absurd ⟨Int32.not_lt.mp h1, Int32.not_lt.mp h2⟩ h
theorem m_n2 {M : zSt} {q : Nat} (e : zI M 1 = nI (q + 2)) (a1 : Int32) (k : zSt → Int32 → Option (Int32 × zSt)) (f : Nat) (v : Int32) : L_X11_number_7 a1 (nI q) k (f + 1) M v = k M v := by
  rw [L_X11_number_7, e, show nI q + 2 = nI (q + 2) from nI_add q 2, if_pos (Int32.le_refl _)]
def kN (a1 : Int32) (p : Nat) : zSt → Int32 → Option (Int32 × zSt) := fun S v => if zI S 1 = nI p then some (-1, sI S 1 (nI p)) else if a1 ≤ v ∧ v ≤ 59 then some (v, S) else some (-1, sI S 1 (nI p))
theorem m_nk {M : zSt} {p : Nat} (e : zI M 1 = nI p) (a1 : Int32) : F_X11_number M a1 = L_X11_number_7 a1 (nI p) (kN a1 p) 1000 M (nI 0) := by
  refine (F_X11_number.eq_1 M a1).trans ?_
  refine (lt_eq _ _).trans ?_
  refine (lt_eq _ _).trans ?_
  rw [e]
  congr 1
  funext S v
  unfold kN
  rw [p_in]
  simp only [lt, Option.bind_some]
  by_cases h : zI S 1 = nI p
  · rw [if_pos h, if_pos h]
  · rw [if_neg h, if_neg h]
    by_cases h2 : a1 ≤ v ∧ v ≤ 59
    · rw [if_pos h2, if_pos h2, if_neg i01]
    · rw [if_neg h2, if_neg h2, if_pos rfl]
theorem kN_0 {M : zSt} {p : Nat} (e : zI M 1 = nI p) (a1 v : Int32) : kN a1 p M v = some (-1, sI M 1 (nI p)) := by
  unfold kN
  rw [if_pos e]
theorem kN_1 {M : zSt} {p q : Nat} (e : zI M 1 = nI q) (h : p ≠ q) (hp : p < 2 ^ 31) (hq : q < 2 ^ 31) (a1 v : Int32) : kN a1 p M v = if a1 ≤ v ∧ v ≤ 59 then some (v, M) else some (-1, sI M 1 (nI p)) := by
  unfold kN
  rw [e, if_neg (nI_ne (fun z => h z.symm) hq hp)]
theorem t_num {X M : zSt} {t p W : Nat} (g : gS X M t p W) : (F_X8_scanNumber X = some (-1, X) ∧ ∀ a1, F_X11_number M a1 = some (-1, sI M 1 (nI p))) ∨ ∃ (v q : Nat) (X1 M1 : zSt), v ≤ 99 ∧ p < q ∧ q ≤ t ∧ fX X X1 ∧ fM M M1 ∧ gS X1 M1 t q W ∧ F_X8_scanNumber X = some (nI v, X1) ∧ ∀ a1, F_X11_number M a1 = if a1 ≤ nI v ∧ nI v ≤ 59 then some (nI v, M1) else some (-1, sI M1 1 (nI p)) := by
  have ht := g.1.1
  have hp := g.2.2.2.1
  have ux : F_X8_scanNumber X = L_X8_scanNumber_4 (fun S v => some (v, S)) 1000 X (-1) (nI 0) := (F_X8_scanNumber.eq_1 X).trans ((lt_eq _ _).trans (lt_eq _ _))
  by_cases h : (48 : Int32) ≤ bY' M t p ∧ bY' M t p ≤ 57
  · obtain ⟨hp1, d, hd, e⟩ := b_dg g.1 h
    right
    have g1 := gS_p g (q := p + 1) (by omega)
    have x1 := x_n1 g (c := 0) (by omega) hd e (fun S v => some (v, S)) 999 (-1) 0 (by decide)
    by_cases h2 : (48 : Int32) ≤ bY' (sI M 1 (nI (p + 1))) t (p + 1) ∧ bY' (sI M 1 (nI (p + 1))) t (p + 1) ≤ 57
    · obtain ⟨hp2, d2, hd2, e2⟩ := b_dg g1.1 h2
      have g2 := gS_p g1 (q := p + 2) (by omega)
      have x2 := x_n1 g1 (c := 1) (by omega) hd2 e2 (fun S v => some (v, S)) 998 (nI (10 * 0 + d)) (10 * 0 + d) (by rw [show (0 : Int32) = nI 0 from rfl, q_max _ _ (by omega) (by omega), Nat.max_eq_left (by omega)])
      have x3 := x_n2 (sI (sI X 1 (nI (p + 1))) 1 (nI (p + 2))) (fun S v => some (v, S)) 997 (nI (10 * (10 * 0 + d) + d2))
      refine ⟨10 * (10 * 0 + d) + d2, p + 2, _, _, by omega, by omega, by omega, fX_t (fX_i X _) (fX_i _ _), fM_t (fM_i M _) (fM_i _ _), g2, ?_, fun a1 => ?_⟩
      · rw [ux]
        exact x1.trans (x2.trans x3)
      · rw [m_nk g.2.2.1]
        refine (m_n1 g (q := p) (by omega) (by omega) hd e a1 (kN a1 p) 999 0).trans ?_
        refine (m_n1 g1 (q := p) (by omega) (by omega) hd2 e2 a1 (kN a1 p) 998 (10 * 0 + d)).trans ?_
        refine (m_n2 (q := p) g2.2.2.1 a1 (kN a1 p) 997 _).trans ?_
        exact kN_1 g2.2.2.1 (by omega) (by omega) (by omega) a1 _
    · have x2 := x_n0 g1 h2 (fun S v => some (v, S)) 998 (nI (10 * 0 + d)) (nI (0 + 1))
      refine ⟨10 * 0 + d, p + 1, _, _, by omega, by omega, by omega, fX_i X _, fM_i M _, g1, ?_, fun a1 => ?_⟩
      · rw [ux]
        exact x1.trans x2
      · rw [m_nk g.2.2.1]
        refine (m_n1 g (q := p) (by omega) (by omega) hd e a1 (kN a1 p) 999 0).trans ?_
        refine (m_n0 g1 h2 a1 (nI p) (kN a1 p) 998 _).trans ?_
        exact kN_1 g1.2.2.1 (by omega) (by omega) (by omega) a1 _
  · left
    refine ⟨?_, fun a1 => ?_⟩
    · rw [ux]
      exact x_n0 g h (fun S v => some (v, S)) 999 (-1) (nI 0)
    · rw [m_nk g.2.2.1]
      refine (m_n0 g h a1 (nI p) (kN a1 p) 999 _).trans ?_
      exact kN_0 g.2.2.1 a1 _
-- the minutes of a part
theorem y_one : ∀ m : Fin 60, (1 : Int64) <<< ((nI m).toInt64 &&& 63) = lN (2 ^ (m : Nat)) := by decide +kernel
theorem bt_one (W m j : Nat) : bt (W ||| 2 ^ m) j = if j = m then 1 else bt W j := by
  unfold bt
  rw [Nat.testBit_or, Nat.testBit_two_pow]
  by_cases h : j = m
  · rw [if_pos h, h]
    simp
  · rw [if_neg h, decide_eq_false (fun q => h q.symm), Bool.or_false]
theorem t_one {X M : zSt} {t p W m : Nat} (g : gS X M t p W) (hm : m < 60) : gS (sJ X 0 ((zJ X 0) ||| ((1 : Int64) <<< ((nI m).toInt64 &&& 63)))) (sA M 2 (upd (zA M 2) m 1)) t p (W ||| 2 ^ m) := by
  refine ⟨gT_f (eS_J (eS_r _ _ _ X) 0 _) (eS_A (eS_r _ _ _ M) 2 _ (by decide)) g.1, g.2.1, g.2.2.1, g.2.2.2.1, ?_, Nat.or_lt_two_pow g.2.2.2.2.2.1 (Nat.pow_lt_pow_right (by decide) hm), fun j hj => ?_⟩
  · rw [zJ_sJ, if_pos rfl, g.2.2.2.2.1, y_one ⟨m, hm⟩, lN_or]
  · rw [zA_sA, if_pos rfl, bt_one]
    by_cases h : j = m
    · rw [if_pos h, h, upd_s]; rfl
    · rw [if_neg h, upd_n _ _ h]
      exact g.2.2.2.2.2.2 j hj
theorem fX_j (X : zSt) (v : Int64) : fX X (sJ X 0 v) := eS_J (eS_r _ _ _ X) 0 v
theorem fM_a (M : zSt) (h : Nat → Int32) : fM M (sA M 2 h) := eS_A (eS_r _ _ _ M) 2 _ (by decide)
theorem t_stp {t p s : Nat} (hs : 1 ≤ s) (hs2 : s ≤ 60) : ∀ (n m W : Nat) (X M : zSt) (f f' : Nat), gS X M t p W → 60 - m ≤ n → m ≤ 200 → n < f → n < f' → ∃ (X1 M1 : zSt) (W1 : Nat), gS X1 M1 t p W1 ∧ fX X X1 ∧ fM M M1 ∧ (∀ k, L_X8_scanPart_80 (nI s) k f X (nI m) = k X1) ∧ (∀ k, L_X11_faultNow_86 (nI s) k f' M (nI m) = k M1) := by
  intro n
  induction n with
  | zero =>
    intro m W X M f f' g h1 h2 h3 h4
    obtain ⟨f, rfl⟩ : ∃ a, f = a + 1 := ⟨f - 1, by omega⟩
    obtain ⟨f', rfl⟩ : ∃ a, f' = a + 1 := ⟨f' - 1, by omega⟩
    refine ⟨X, M, W, g, fX_r X, fM_r M, fun k => ?_, fun k => ?_⟩
    · rw [L_X8_scanPart_80, if_pos (show (60 : Int32) ≤ nI m from nI_le (a := 60) (by omega) (by omega))]
    · rw [L_X11_faultNow_86, if_pos (show (60 : Int32) ≤ nI m from nI_le (a := 60) (by omega) (by omega))]
  | succ n ih =>
    intro m W X M f f' g h1 h2 h3 h4
    obtain ⟨f, rfl⟩ : ∃ a, f = a + 1 := ⟨f - 1, by omega⟩
    obtain ⟨f', rfl⟩ : ∃ a, f' = a + 1 := ⟨f' - 1, by omega⟩
    by_cases h : 60 ≤ m
    · refine ⟨X, M, W, g, fX_r X, fM_r M, fun k => ?_, fun k => ?_⟩
      · rw [L_X8_scanPart_80, if_pos (show (60 : Int32) ≤ nI m from nI_le (a := 60) (by omega) (by omega))]
      · rw [L_X11_faultNow_86, if_pos (show (60 : Int32) ≤ nI m from nI_le (a := 60) (by omega) (by omega))]
    · obtain ⟨X1, M1, W1, g1, fx, fm, e1, e2⟩ := ih (m + s) _ _ _ f f' (t_one g (m := m) (by omega)) (by omega) (by omega) (by omega) (by omega)
      refine ⟨X1, M1, W1, g1, fX_t (fX_j X _) fx, fM_t (fM_a M _) fm, fun k => ?_, fun k => ?_⟩
      · rw [L_X8_scanPart_80, if_neg (show ¬ (60 : Int32) ≤ nI m from nI_ge (b := 60) (by omega) (by decide))]
        simp only [lt, nI_add]
        exact e1 k
      · rw [L_X11_faultNow_86, if_neg (show ¬ (60 : Int32) ≤ nI m from nI_ge (b := 60) (by omega) (by decide)), ibd_nI (by omega) (by decide), nIN (by omega)]
        simp only [lt, nI_add]
        exact e2 k
theorem t_60 (M : zSt) {m : Nat} (hm : m < 60) (k : zSt → Option (Int32 × zSt)) (f : Nat) : L_X11_faultNow_86 60 k (f + 2) M (nI m) = k (sA M 2 (upd (zA M 2) m 1)) := by
  rw [L_X11_faultNow_86, if_neg (show ¬ (60 : Int32) ≤ nI m from nI_ge (b := 60) (by omega) (by decide)), ibd_nI (by omega) (by decide), nIN (by omega)]
  simp only [lt]
  rw [show nI m + 60 = nI (m + 60) from nI_add m 60, L_X11_faultNow_86, if_pos (show (60 : Int32) ≤ nI (m + 60) from nI_le (a := 60) (by omega) (by omega))]
