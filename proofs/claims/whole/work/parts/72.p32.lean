-- held
def olt : Option Nat → Option Nat → Bool
  | none, _ => false
  | some _, none => true
  | some a, some b => decide (a < b)
def bo (T : Nat → Option Nat) : Nat → Option Nat × Nat
  | 0 => (none, 0)
  | d + 1 => if olt (T d) (bo T d).1 = true then (T d, d) else bo T d
theorem bo_s (T : Nat → Option Nat) (d : Nat) : bo T (d + 1) = if olt (T d) (bo T d).1 = true then (T d, d) else bo T d := rfl
theorem olt_K {K B : Nat} {x y : Option Nat} (hx : bd B x) (hy : bd B y) (hB : B < K) : olt x y = true ↔ x.getD K < y.getD K := by
  cases x with
  | none =>
    constructor
    · intro q; cases q
    · intro q
      have := g_le hy (show B ≤ K by omega)
      have q : K < y.getD K := q
      omega
  | some a =>
    have := hx a rfl
    cases y with
    | none => exact ⟨fun _ => by show a < K; omega, fun _ => rfl⟩
    | some b => exact ⟨fun q => of_decide_eq_true q, fun q => decide_eq_true q⟩
theorem bo_2 (T : Nat → Option Nat) : ∀ d, (bo T d).2 ≤ d - 1 ∧ ((bo T d).1 = none ∨ (bo T d).1 = T (bo T d).2) := by
  intro d
  induction d with
  | zero => exact ⟨Nat.le_refl _, Or.inl rfl⟩
  | succ d ih =>
    rw [bo_s]
    by_cases z : olt (T d) (bo T d).1 = true
    · rw [if_pos z]
      exact ⟨by show d ≤ d + 1 - 1; omega, Or.inr rfl⟩
    · rw [if_neg z]
      exact ⟨by have := ih.1; omega, ih.2⟩
theorem bo_nn {T : Nat → Option Nat} (h : T 0 ≠ none) : ∀ d, (bo T (d + 1)).1 ≠ none := by
  intro d
  induction d with
  | zero =>
    rw [bo_s]
    have : olt (T 0) (bo T 0).1 = true := by
      show olt (T 0) none = true
      cases e : T 0 with
      | none => exact absurd e h
      | some a => rfl
    rw [if_pos this]
    exact h
  | succ d ih =>
    rw [bo_s]
    by_cases z : olt (T (d + 1)) (bo T (d + 1)).1 = true
    · rw [if_pos z]
      intro q
      have q : T (d + 1) = none := q
      rw [q] at z
      cases z
    · rw [if_neg z]
      exact ih
theorem bo_b {T : Nat → Option Nat} {B : Nat} (h : ∀ d, bd B (T d)) (d : Nat) : bd B (bo T d).1 := fun a ha => by
  rcases (bo_2 T d).2 with q | q
  · rw [q] at ha; cases ha
  · rw [q] at ha; exact h _ a ha
def tT (G : Nat → Nat) (n h d : Nat) : Option Nat := dO G h (60 + G 0 + d) (n - 1) 0 d
theorem tT_b {G : Nat → Nat} {n h : Nat} (hG : ∀ i, G i ≤ 59) (hn : n ≤ 12) (hh : h ≤ 5) {d : Nat} (hd : d ≤ h) : bd 91512 (tT G n h d) := fun a ha => by
  have := hG 0
  have := dO_bd hG hh (show 60 + G 0 + d ≤ 124 by omega) (n - 1) 0 d a ha
  omega
theorem bo_bd {G : Nat → Nat} {n h : Nat} (hG : ∀ i, G i ≤ 59) (hn : n ≤ 12) (hh : h ≤ 5) {d : Nat} (hd : d ≤ h + 1) : bd 91512 (bo (tT G n h) d).1 := fun a ha => by
  obtain ⟨q1, q2⟩ := bo_2 (tT G n h) d
  rcases q2 with q | q
  · rw [q] at ha; cases ha
  · rw [q] at ha; exact tT_b hG hn hh (by omega) a ha
theorem x_set {G : Nat → Nat} {n h : Nat} : ∀ (j d : Nat) (S : zSt) (f : Nat), d + j = h + 1 → j < f → bX' S G n h → ∃ S1, (∀ k, L_X3_settle_20 k f S (nI ((bo (tT G n h) d).1.getD 1000000)) (nI (bo (tT G n h) d).2) (nI d) = k S1 (nI ((bo (tT G n h) (h + 1)).1.getD 1000000)) (nI (bo (tT G n h) (h + 1)).2)) ∧ eS [] rowsX [] S S1 := by
  intro j
  induction j with
  | zero =>
    intro d S f h1 h2 g
    obtain ⟨f, rfl⟩ : ∃ a, f = a + 1 := ⟨f - 1, by omega⟩
    have hh := g.2.2.1
    have e : d = h + 1 := by omega
    subst e
    exact ⟨S, fun k => by rw [L_X3_settle_20, g.2.2.2.2.2.1, if_pos (nI_lt (by omega) (by omega))], eS_r _ _ _ S⟩
  | succ j ih =>
    intro d S f h1 h2 g
    obtain ⟨f, rfl⟩ : ∃ a, f = a + 1 := ⟨f - 1, by omega⟩
    have hh := g.2.2.1
    have hn := g.2.1
    have hG := g.2.2.2.1
    obtain ⟨S1, q1, q2, -⟩ := x_least g (d := d) (by omega)
    obtain ⟨S2, q3, q4⟩ := ih (d + 1) S1 f (by omega) (by omega) (bX_f q2 g)
    have b1 := tT_b hG hn hh (d := d) (by omega)
    have b2' := bo_bd hG hn hh (d := d) (by omega)
    have l1 := g_le b1 (show 91512 ≤ 1000000 by decide)
    have l2 := g_le b2' (show 91512 ≤ 1000000 by decide)
    have ok := olt_K (K := 1000000) b1 b2' (by decide)
    have q1 : F_X3_leastWithFirst S (nI d) = some (nI ((tT G n h d).getD 1000000), S1) := q1
    refine ⟨S2, fun k => ?_, eS_t q2 q4⟩
    have q5 := q3 k
    rw [L_X3_settle_20, g.2.2.2.2.2.1, if_neg (nI_nlt (show d ≤ h by omega) (by omega)), q1, b2_some]
    refine (lt_eq _ _).trans ?_
    by_cases z : olt (tT G n h d) (bo (tT G n h) d).1 = true
    · rw [bo_s, if_pos z] at q5
      rw [if_neg (nI_ge (ok.mp z) (by omega)), nI_1]
      refine (lt_eq _ _).trans ?_
      refine (lt_eq _ _).trans ?_
      refine (lt_eq _ _).trans ?_
      exact q5
    · rw [bo_s, if_neg z] at q5
      rw [if_pos (nI_le (Nat.not_lt.mp (fun y => z (ok.mpr y))) (by omega)), nI_1]
      refine (lt_eq _ _).trans ?_
      exact q5
theorem m_set {G : Nat → Nat} {n h : Nat} (a3 : Int32) : ∀ (j d : Nat) (S : zSt) (f : Nat), d + j = h + 1 → j < f → bM S G n h → ∃ S1, (∀ k, L_X11_heldNow_78 (nI h) a3 (nI n) k f S (nI (bo (tT G n h) d).2) (nI ((bo (tT G n h) d).1.getD 100000)) (nI d) = k S1 (nI (bo (tT G n h) (h + 1)).2) (nI ((bo (tT G n h) (h + 1)).1.getD 100000))) ∧ eS [] [5] [] S S1 := by
  intro j
  induction j with
  | zero =>
    intro d S f h1 h2 g
    obtain ⟨f, rfl⟩ : ∃ a, f = a + 1 := ⟨f - 1, by omega⟩
    have hh := g.2.2.1
    have e : d = h + 1 := by omega
    subst e
    exact ⟨S, fun k => by rw [L_X11_heldNow_78, if_pos (nI_lt (by omega) (by omega))], eS_r _ _ _ S⟩
  | succ j ih =>
    intro d S f h1 h2 g
    obtain ⟨f, rfl⟩ : ∃ a, f = a + 1 := ⟨f - 1, by omega⟩
    have hh := g.2.2.1
    have hn := g.2.1
    have hG := g.2.2.2.1
    obtain ⟨S1, q1, q2, -⟩ := m_least g (d := d) (by omega)
    obtain ⟨S2, q3, q4⟩ := ih (d + 1) S1 f (by omega) (by omega) (bM_f (q2.2.1 4 (by decide)) g)
    have b1 := tT_b hG hn hh (d := d) (by omega)
    have b2' := bo_bd hG hn hh (d := d) (by omega)
    have l1 := g_le b1 (show 91512 ≤ 100000 by decide)
    have l2 := g_le b2' (show 91512 ≤ 100000 by decide)
    have ok := olt_K (K := 100000) b1 b2' (by decide)
    have q1 : F_X11_backFrom S (nI n) (nI h) (nI d) = some (nI ((tT G n h d).getD 100000), S1) := q1
    refine ⟨S2, fun k => ?_, eS_t q2 q4⟩
    have q5 := q3 k
    rw [L_X11_heldNow_78, if_neg (nI_nlt (show d ≤ h by omega) (by omega)), q1, b2_some]
    refine (lt_eq _ _).trans ?_
    refine (jn_eq _ _).trans ?_
    by_cases z : olt (tT G n h d) (bo (tT G n h) d).1 = true
    · rw [bo_s, if_pos z] at q5
      have c : ¬ nI ((bo (tT G n h) d).1.getD 100000) ≤ nI ((tT G n h d).getD 100000) := nI_ge (ok.mp z) (by omega)
      rw [if_neg c]
      refine (lt_eq _ _).trans ?_
      rw [if_neg c, nI_1]
      refine (lt_eq _ _).trans ?_
      refine (lt_eq _ _).trans ?_
      exact q5
    · rw [bo_s, if_neg z] at q5
      have c : nI ((bo (tT G n h) d).1.getD 100000) ≤ nI ((tT G n h d).getD 100000) := nI_le (Nat.not_lt.mp (fun y => z (ok.mpr y))) (by omega)
      rw [if_pos c]
      refine (lt_eq _ _).trans ?_
      rw [if_pos c, nI_1]
      refine (lt_eq _ _).trans ?_
      refine (lt_eq _ _).trans ?_
      exact q5
theorem d0_nn {G : Nat → Nat} {n h e0 : Nat} (hG : ∀ i, G i ≤ 59) (hi : ∀ i, i + 1 < n → G i < G (i + 1)) : ∀ j b, b + j + 1 = n → dO G h e0 j b 0 ≠ none := by
  intro j
  induction j with
  | zero =>
    intro b hb
    have := hG b
    unfold dO
    rw [if_pos (by omega)]
    exact fun q => by cases q
  | succ j ih =>
    intro b hb
    have := hG b
    unfold dO
    rw [if_pos (by omega)]
    refine mO_nn (e := 0) ?_ (h + 1) (by omega)
    have h1 := ih (b + 1) (by omega)
    have h2 := hi b (by omega)
    unfold thr
    rw [if_pos (by omega)]
    cases e : dO G h e0 j (b + 1) 0 with
    | none => exact absurd e h1
    | some c => exact fun q => by cases q
theorem h_buses {X M : zSt} {l W n : Nat} (g : gB X M l W) (hn : sN (bt W) 60 = n) (h12 : n ≤ 12) : ∃ X1, F_X3_takeBuses X (lN W) = some X1 ∧ eS [2] [12] [] X X1 ∧ zI X1 2 = nI n ∧ ∀ i, i < n → zA X1 12 i = nI (gA W 60 i) := by
  obtain ⟨S1, q1, q2, q3, q4⟩ := h_tbX g.1 hn h12 60 0 (sI X 2 0) 1000 (by omega) (by omega) rfl (fun i hi => absurd hi (Nat.not_lt_zero _))
  refine ⟨S1, ?_, eS_t (eS_I (eS_r _ _ _ X) 2 _ (by decide)) q2, q3, q4⟩
  refine (F_X3_takeBuses.eq_1 X (lN W)).trans ?_
  refine (lt_eq _ _).trans ?_
  refine (lt_eq _ _).trans ?_
  exact q1
theorem h_settle {X M : zSt} {l W n h : Nat} (g : gB X M l W) (hn : sN (bt W) 60 = n) (h1 : 1 ≤ n) (h12 : n ≤ 12) (hh : h ≤ 5) : ∃ (X1 : zSt) (fs a : Nat), fs = (bo (tT (gA W 60) n h) (h + 1)).2 ∧ fs ≤ h ∧ (bo (tT (gA W 60) n h) (h + 1)).1 = some a ∧ tT (gA W 60) n h fs = some a ∧ a ≤ 91512 ∧ F_X3_settle X (lN W) (nI h) = some (nI a, X1) ∧ eS [1, 2, 3] [12, 13, 26, 27, 28, 29, 30, 31, 32, 33, 34, 35, 36, 37] [] X X1 ∧ ∀ i, i < n → zA X1 13 i = nI (la (gA W 60) h (60 + gA W 60 0 + fs) n fs i) := by
  obtain ⟨X1, e1, e2, e3, e4⟩ := h_buses g hn h12
  have hG : ∀ i, gA W 60 i ≤ 59 := fun i => gA_le W i 59
  have hinc : ∀ i, i + 1 < n → gA W 60 i < gA W 60 (i + 1) := fun i hi => gA_inc W 60 i (by omega)
  have T0 : tT (gA W 60) n h 0 ≠ none := d0_nn hG hinc (n - 1) 0 (by omega)
  have hb2 := bo_2 (tT (gA W 60) n h) (h + 1)
  have hbn := bo_nn T0 h
  generalize hfs : (bo (tT (gA W 60) n h) (h + 1)).2 = fs at *
  have hfl : fs ≤ h := by have := hb2.1; omega
  obtain ⟨a, ha⟩ : ∃ a, (bo (tT (gA W 60) n h) (h + 1)).1 = some a := by
    cases e : (bo (tT (gA W 60) n h) (h + 1)).1 with
    | none => exact absurd e hbn
    | some a => exact ⟨a, rfl⟩
  have ta : tT (gA W 60) n h fs = some a := by
    rcases hb2.2 with q | q
    · rw [ha] at q; cases q
    · rw [← q]; exact ha
  have bX2 : bX' (sI X1 3 (nI h)) (gA W 60) n h := ⟨h1, h12, hh, hG, by rw [zI_sI, if_neg (by decide)]; exact e3, rfl, e4⟩
  obtain ⟨X2, q1, q2⟩ := x_set (G := gA W 60) (n := n) (h := h) (h + 1) 0 (sI X1 3 (nI h)) 1000 (by omega) (by omega) bX2
  have bX3 := bX_f q2 bX2
  obtain ⟨X3, q3, q4, q5⟩ := x_least bX3 (d := fs) hfl
  have bX4 := bX_f q4 bX3
  have h00 := hG 0
  have fr : eS [] [13] [] X3 (sA X3 13 (upd (zA X3 13) 0 (nI fs))) := eS_A (eS_r _ _ _ X3) _ _ (by decide)
  obtain ⟨X4, q6, q7, q8⟩ := x_cl (G := gA W 60) (n := n) (h := h) (e0 := 60 + gA W 60 0 + fs) (fs := fs) hfl ⟨a, ta⟩ (by omega) (n - 1) 1 (sA X3 13 (upd (zA X3 13) 0 (nI fs))) 1000 (by omega) (by omega) (by omega) (by
    unfold bX' at *
    rw [fr.1 2 (by decide), fr.1 3 (by decide), fr.2.1 12 (by decide)]
    exact bX4) (fun i h3 h4 d h5 => by
    rw [zA_sA, if_neg (by omega)]
    exact q5 i h3 h4 d h5) (fun i hi => by
    rw [zA_sA, if_pos rfl, show i = 0 by omega, upd_s]
    rfl)
  have wq : ∀ {A B : zSt}, eS [] rowsX [] A B → eS [1, 2, 3] [12, 13, 26, 27, 28, 29, 30, 31, 32, 33, 34, 35, 36, 37] [] A B := fun e => eS_w e (by simp) (fun k hk => List.mem_cons_of_mem _ (List.mem_cons_of_mem _ hk)) (by simp)
  refine ⟨X4, fs, a, rfl, hfl, ha, ta, tT_b hG h12 hh hfl a ta, ?_, eS_t (eS_w e2 (by simp) (by simp) (by simp)) (eS_t (eS_I (eS_r _ _ _ X1) 3 (nI h) (by decide)) (eS_t (wq q2) (eS_t (wq q4) (eS_t (eS_w fr (by simp) (by simp) (by simp)) (eS_w q7 (by simp) (by simp) (by simp)))))), q8⟩
  refine (F_X3_settle.eq_1 X (lN W) (nI h)).trans ?_
  rw [e1, Option.bind_some]
  refine (lt_eq _ _).trans ?_
  refine (lt_eq _ _).trans ?_
  refine (lt_eq _ _).trans ?_
  refine (lt_eq _ _).trans ?_
  refine (q1 _).trans ?_
  rw [hfs, ha, q3, b2_some]
  have cl : F_X3_chooseLater X3 (nI fs) = some X4 := by
    refine (F_X3_chooseLater.eq_1 X3 (nI fs)).trans ?_
    rw [show (0 : Int32) = nI 0 from rfl, ibd_nI (show 0 < 12 by decide) (by decide), nIN (by decide)]
    refine (lt_eq _ _).trans ?_
    refine (lt_eq _ _).trans ?_
    exact q6
  rw [cl]
  rfl
theorem h_held {X M : zSt} (hR : zR X M) {l h : Nat} (hl : l ≤ 1) (hh : h ≤ 5) {a3 : Int32} (h3 : (-1 : Int32) ≤ a3 ∧ a3 ≤ 59) : ∃ (r : Int32) (X1 M1 : zSt), F_X10_held X (nI l) (nI h) a3 = some (r, X1) ∧ F_X11_heldNow M (nI l) (nI h) a3 = some (r, M1) ∧ zR X1 M1 := by
  obtain ⟨W, g⟩ := e_gB hR.2.1 (w := l) (by omega)
  have hc := c_le W
  have h1 : (0 : Int32) ≤ nI l ∧ nI l ≤ 1 := rng' (a := 0) (b := 1) (by omega) hl (by decide)
  have h2 : (0 : Int32) ≤ nI h ∧ nI h ≤ 5 := rng' (a := 0) (b := 5) (by omega) hh (by decide)
  have x0 : F_X10_held X (nI l) (nI h) a3 = if nI (sN (bt W) 60) = 0 then some (-3, X) else if nI (sN (bt W) 60) ≤ 12 then (if a3 < nI (sN (bt W) 60) then b2 (F_X3_settle X (lN W) (nI h)) (fun r S => if a3 = -1 then some (r, S) else (F_X3_laterOf S a3).bind (fun v => some (v, S))) else some (-3, X)) else some (-4, X) := by
    unfold F_X10_held
    rw [p_out, p_out, p_out, if_pos h1, if_pos h2, if_pos h3, e_cX g, g.2.1]
    simp only [Option.bind_some, if_true, lt]
  have m0 : ∃ S1, (∀ k, L_X11_heldNow_6 (nI l) (nI h) a3 k 1000 M 0 0 = k S1 (nI (sN (bt W) 60))) ∧ eS [] [4] [] M S1 ∧ ∀ i, i < sN (bt W) 60 → zA S1 4 i = nI (gA W 60 i) := h_tbM g (nI h) a3 60 0 M 1000 (by omega) (by omega) rfl (fun i hi => absurd hi (Nat.not_lt_zero _))
  obtain ⟨M1, m1, m2, m3⟩ := m0
  have wM : ∀ {A B : zSt} {L : List Nat}, eS [] L [] A B → (∀ k ∈ L, k ∈ [2, 4, 5, 6, 19]) → eS [1] [2, 4, 5, 6, 19] [] A B := fun e hL => eS_w e (by simp) hL (by simp)
  have R1 : zR X M1 := zR_scr (eS_r _ _ _ X) (wM m2 (by simp)) hR
  generalize hn : sN (bt W) 60 = n at *
  by_cases z0 : n = 0
  · refine ⟨-3, X, M1, ?_, ?_, R1⟩
    · rw [x0, if_pos (by rw [z0]; rfl)]
    · refine (F_X11_heldNow.eq_1 M (nI l) (nI h) a3).trans ?_
      refine (lt_eq _ _).trans ?_
      refine (lt_eq _ _).trans ?_
      refine (m1 _).trans ?_
      rw [if_pos (by rw [z0]; rfl)]
  · have n0 : ¬ nI n = 0 := nI_ne0 (by omega) (by omega)
    by_cases z12 : n ≤ 12
    · have n12 : nI n ≤ 12 := nI_le (b := 12) z12 (by decide)
      by_cases zi : a3 < nI n
      · obtain ⟨X2, fs, a, hfs, hfl, ha, ta, ab, xs, xe, xl⟩ := h_settle g hn (by omega) z12 hh
        have hG : ∀ i, gA W 60 i ≤ 59 := fun i => gA_le W i 59
        have bM1 : bM M1 (gA W 60) n h := ⟨by omega, z12, hh, hG, m3⟩
        have m4 : ∃ S1, (∀ k, L_X11_heldNow_78 (nI h) a3 (nI n) k 1000 M1 0 100000 0 = k S1 (nI (bo (tT (gA W 60) n h) (h + 1)).2) (nI ((bo (tT (gA W 60) n h) (h + 1)).1.getD 100000))) ∧ eS [] [5] [] M1 S1 := m_set a3 (h + 1) 0 M1 1000 (by omega) (by omega) bM1
        obtain ⟨M2, m5, m6⟩ := m4
        rw [← hfs, ha] at m5
        have m5 : ∀ k : zSt → Int32 → Int32 → Option (Int32 × zSt), L_X11_heldNow_78 (nI h) a3 (nI n) k 1000 M1 0 100000 0 = k M2 (nI fs) (nI a) := m5
        have bM2 := bM_f (m6.2.1 4 (by decide)) bM1
        have e12 : eS [1] [2, 4, 5, 6, 19] [] M M2 := eS_t (wM m2 (by simp)) (wM m6 (by simp))
        by_cases za : a3 = -1
        · refine ⟨nI a, X2, M2, ?_, ?_, zR_scr xe e12 hR⟩
          · rw [x0, if_neg n0, if_pos n12, if_pos zi, xs, b2_some, if_pos za]
          · refine (F_X11_heldNow.eq_1 M (nI l) (nI h) a3).trans ?_
            refine (lt_eq _ _).trans ?_
            refine (lt_eq _ _).trans ?_
            refine (m1 _).trans ?_
            rw [if_neg n0, if_pos n12, if_pos zi]
            refine (lt_eq _ _).trans ?_
            refine (lt_eq _ _).trans ?_
            refine (lt_eq _ _).trans ?_
            refine (m5 _).trans ?_
            rw [if_pos za]
        · have : ∃ i : Nat, a3 = nI i ∧ i < n := by
            have hneg : ¬ a3 < 0 := by
              intro q
              apply za
              apply Int32.toInt_inj.mp
              have q1 := Int32.lt_iff_toInt_lt.mp q
              have q2 := Int32.le_iff_toInt_le.mp h3.1
              rw [Int32.toInt_zero] at q1
              have e1 : (-1 : Int32).toInt = -1 := by decide
              rw [e1] at q2 ⊢
              omega
            obtain ⟨i, hi, e⟩ := nI_of hneg
            rw [e] at zi
            exact ⟨i, e, (nI_ltI hi (by omega)).mp zi⟩
          obtain ⟨i, ei, hin⟩ := this
          subst ei
          obtain ⟨M3, b1, b2', b3⟩ := m_least bM2 (d := fs) hfl
          have ta' : dO (gA W 60) h (60 + gA W 60 0 + fs) (n - 1) 0 fs = some a := ta
          rw [ta'] at b1
          have b1 : F_X11_backFrom M2 (nI n) (nI h) (nI fs) = some (nI a, M3) := b1
          have h00 := hG 0
          have fr : eS [] [6] [] M3 (sA M3 6 (upd (zA M3 6) 0 (nI fs))) := eS_A (eS_r _ _ _ M3) _ _ (by decide)
          obtain ⟨M4, c1, c2, c3⟩ := m_cl (G := gA W 60) (n := n) (h := h) (e0 := 60 + gA W 60 0 + fs) (fs := fs) hfl ⟨a, ta'⟩ (by omega) (nI i) (nI a) (n - 1) 1 (sA M3 6 (upd (zA M3 6) 0 (nI fs))) 1000 (by omega) (by omega) (by omega) (bM_f (fr.2.1 4 (by decide)) (bM_f (b2'.2.1 4 (by decide)) bM2)) (fun i h3 h4 d h5 => by
            rw [zA_sA, if_neg (by decide)]
            exact b3 i h3 h4 d h5) (fun i hi => by
            rw [zA_sA, if_pos rfl, show i = 0 by omega, upd_s]
            rfl)
          have e14 : eS [1] [2, 4, 5, 6, 19] [] M M4 := eS_t e12 (eS_t (wM b2' (by simp)) (eS_t (wM fr (by simp)) (wM c2 (by simp))))
          refine ⟨nI (la (gA W 60) h (60 + gA W 60 0 + fs) n fs i), X2, M4, ?_, ?_, zR_scr xe e14 hR⟩
          · rw [x0, if_neg n0, if_pos n12, if_pos zi, xs, b2_some, if_neg za]
            unfold F_X3_laterOf
            rw [ibd_nI (show i < 12 by omega) (by decide), nIN (by omega), xl i hin]
            rfl
          · refine (F_X11_heldNow.eq_1 M (nI l) (nI h) (nI i)).trans ?_
            refine (lt_eq _ _).trans ?_
            refine (lt_eq _ _).trans ?_
            refine (m1 _).trans ?_
            rw [if_neg n0, if_pos n12, if_pos zi]
            refine (lt_eq _ _).trans ?_
            refine (lt_eq _ _).trans ?_
            refine (lt_eq _ _).trans ?_
            refine (m5 _).trans ?_
            rw [if_neg za, b1, b2_some]
            refine (lt_eq _ _).trans ?_
            rw [show (0 : Int32) = nI 0 from rfl, ibd_nI (show 0 < 12 by decide) (by decide), nIN (by decide)]
            refine (lt_eq _ _).trans ?_
            refine (lt_eq _ _).trans ?_
            refine (c1 _).trans ?_
            rw [if_neg (show ¬ (100000 : Int32) ≤ nI a from nI_ge (b := 100000) (by omega) (by decide)), ibd_nI (show i < 12 by omega) (by decide), nIN (by omega), c3 i hin]
      · refine ⟨-3, X, M1, ?_, ?_, R1⟩
        · rw [x0, if_neg n0, if_pos n12, if_neg zi]
        · refine (F_X11_heldNow.eq_1 M (nI l) (nI h) a3).trans ?_
          refine (lt_eq _ _).trans ?_
          refine (lt_eq _ _).trans ?_
          refine (m1 _).trans ?_
          rw [if_neg n0, if_pos n12, if_neg zi]
    · have n12 : ¬ nI n ≤ 12 := nI_ge (a := 12) (by omega) (by omega)
      refine ⟨-4, X, M1, ?_, ?_, R1⟩
      · rw [x0, if_neg n0, if_neg n12]
      · refine (F_X11_heldNow.eq_1 M (nI l) (nI h) a3).trans ?_
        refine (lt_eq _ _).trans ?_
        refine (lt_eq _ _).trans ?_
        refine (m1 _).trans ?_
        rw [if_neg n0, if_neg n12]
theorem a_held : ag_held zR := by
  intro X M a1 a2 a3 hR
  by_cases h1 : (0 : Int32) ≤ a1 ∧ a1 ≤ 1
  · by_cases h2 : (0 : Int32) ≤ a2 ∧ a2 ≤ 5
    · by_cases h3 : (-1 : Int32) ≤ a3 ∧ a3 ≤ 59
      · obtain ⟨l, -, hl, rfl⟩ := rng 0 1 rfl rfl (by decide) (by decide) h1
        obtain ⟨h, -, hh, rfl⟩ := rng 0 5 rfl rfl (by decide) (by decide) h2
        obtain ⟨r, X1, M1, e1, e2, R⟩ := h_held hR hl hh h3
        refine ⟨r, X1, M1, e1, ?_, R⟩
        unfold F_X11_held
        rw [p_in, p_in, p_in, if_pos h1, if_pos h2, if_pos h3, e2]
        simp only [Option.bind_some, if_neg i01, b2_some]
      · unfold F_X10_held F_X11_held
        rw [p_in, p_in, p_in, p_out, p_out, p_out, if_pos h1, if_pos h2, if_neg h3, if_pos h1, if_pos h2, if_neg h3]
        exact ⟨_, _, _, rfl, rfl, hR⟩
    · unfold F_X10_held F_X11_held
      rw [p_in, p_in, p_out, p_out, if_pos h1, if_neg h2, if_pos h1, if_neg h2]
      exact ⟨_, _, _, rfl, rfl, hR⟩
  · unfold F_X10_held F_X11_held
    rw [p_in, p_out, if_neg h1, if_neg h1]
    exact ⟨_, _, _, rfl, rfl, hR⟩
