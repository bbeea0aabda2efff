-- holding: the model
def bM (S : zSt) (G : Nat → Nat) (n h : Nat) : Prop := 1 ≤ n ∧ n ≤ 12 ∧ h ≤ 5 ∧ (∀ i, G i ≤ 59) ∧ ∀ i, i < n → zA S 4 i = nI (G i)
def dM (G : Nat → Nat) (n h e0 fs i d : Nat) : Option Nat := if i = 0 ∧ d ≠ fs then none else dO G h e0 (n - 1 - i) i d
def rM (S : zSt) (G : Nat → Nat) (n h e0 fs b : Nat) : Prop := ∀ i, b ≤ i → i < n → ∀ d, d ≤ h → zA S 5 (6 * i + d) = nI ((dM G n h e0 fs i d).getD 100000)
theorem bM_f {S S1 : zSt} {G : Nat → Nat} {n h : Nat} (e : zA S1 4 = zA S 4) (b : bM S G n h) : bM S1 G n h := by
  unfold bM at *
  rw [e]
  exact b
theorem d_le {a b : Nat} (ha : a < 2 ^ 30) (hb : b < 2 ^ 30) : nI a - nI b ≤ 0 ↔ a ≤ b := by
  rw [Int32.le_iff_toInt_le, pk_sub_toInt ha hb, Int32.toInt_zero]
  omega
theorem m_tri {x : Nat} (h1 : 1 ≤ x) (h : x ≤ 200) : F_X11_waitsIn (nI x) = some (nI (tri x)) := by
  unfold F_X11_waitsIn
  rw [b2o, e_tri h1 h]
theorem e6 {i d : Nat} : (6 : Int32) * nI i + nI d = nI (6 * i + d) := by
  rw [show (6 : Int32) = nI 6 from rfl, pk_mul, nI_add]
theorem m_next {S : zSt} {G : Nat → Nat} {n h e0 fs i now : Nat} (g : bM S G n h) (r : rM S G n h e0 fs (i + 1)) (hi : i + 1 < n) (hw : now ≤ 200) (he : e0 ≤ 124) (a3 v5 : Int32) (k : Int32 → Option (Int32 × zSt)) : L_X11_backFrom_83 (nI n) (nI h) a3 (nI i) S v5 (nI now) k 1000 100000 0 = k (nI ((mO (fun e => thr now (G (i + 1) + e) (dO G h e0 (n - 1 - (i + 1)) (i + 1) e)) (h + 1)).getD 100000)) := by
  obtain ⟨h1, h2, h3, h4, h7⟩ := g
  have hg1 := h4 (i + 1)
  have bb : ∀ e, e < h + 1 → bd 91512 (thr now (G (i + 1) + e) (dO G h e0 (n - 1 - (i + 1)) (i + 1) e)) := fun e he1 a ha => by
    have := thr_bd (by omega) (dO_bd h4 h3 he (n - 1 - (i + 1)) (i + 1) e) a ha
    omega
  refine loopN (L := fun f (q : Int32 × Int32) => L_X11_backFrom_83 (nI n) (nI h) a3 (nI i) S v5 (nI now) k f q.1 q.2) (st := fun e => (nI ((mO (fun e => thr now (G (i + 1) + e) (dO G h e0 (n - 1 - (i + 1)) (i + 1) e)) e).getD 100000), nI e)) (h + 1) _ (fun f => ?_) (fun f e hi2 => ?_) 1000 0 (by omega) (by omega)
  · show L_X11_backFrom_83 (nI n) (nI h) a3 (nI i) S v5 (nI now) k (f + 1) _ (nI (h + 1)) = _
    rw [L_X11_backFrom_83, if_pos (nI_lt (by omega) (by omega))]
  · show L_X11_backFrom_83 (nI n) (nI h) a3 (nI i) S v5 (nI now) k (f + 1) (nI ((mO (fun e => thr now (G (i + 1) + e) (dO G h e0 (n - 1 - (i + 1)) (i + 1) e)) e).getD 100000)) (nI e) = L_X11_backFrom_83 (nI n) (nI h) a3 (nI i) S v5 (nI now) k f (nI ((om (mO (fun e => thr now (G (i + 1) + e) (dO G h e0 (n - 1 - (i + 1)) (i + 1) e)) e) (thr now (G (i + 1) + e) (dO G h e0 (n - 1 - (i + 1)) (i + 1) e))).getD 100000)) (nI (e + 1))
    have b1 := bd_m bb (m := e) (by omega)
    have l1 := g_le b1 (show 91512 ≤ 100000 by decide)
    have l2 := tv_le (K := 100000) (now := now) (th := G (i + 1) + e) (by omega) (dO_bd h4 h3 he (n - 1 - (i + 1)) (i + 1) e) (by omega)
    rw [L_X11_backFrom_83, if_neg (nI_nlt (show e ≤ h by omega) (by omega)), nI_1, if_neg (nI_ge hi (by omega)), ibd_nI (show i + 1 < 60 by omega) (by decide), nIN (by omega), h7 (i + 1) hi, om_v b1 (bb e hi2) (by decide)]
    generalize hA : (mO (fun e => thr now (G (i + 1) + e) (dO G h e0 (n - 1 - (i + 1)) (i + 1) e)) e).getD 100000 = A at *
    have fin : ∀ c : Nat, c ≤ 107626 → (if nI A ≤ nI c then L_X11_backFrom_83 (nI n) (nI h) a3 (nI i) S v5 (nI now) k f (nI A) (nI (e + 1)) else L_X11_backFrom_83 (nI n) (nI h) a3 (nI i) S v5 (nI now) k f (nI c) (nI (e + 1))) = L_X11_backFrom_83 (nI n) (nI h) a3 (nI i) S v5 (nI now) k f (nI (min A c)) (nI (e + 1)) := fun c hc => by
      by_cases z : A ≤ c
      · rw [if_pos (nI_le z (by omega)), Nat.min_eq_left z]
      · rw [if_neg (nI_ge (by omega) (by omega)), Nat.min_eq_right (by omega)]
    simp only [lt, jn, nI_1, nI_add]
    have dd : ∀ d, d ≤ h → zA S 5 (6 * (i + 1) + d) = nI ((dO G h e0 (n - 1 - (i + 1)) (i + 1) d).getD 100000) := fun d hd => by
      rw [r (i + 1) (Nat.le_refl _) hi d hd]
      unfold dM
      rw [if_neg (by omega)]
    by_cases y : now < G (i + 1) + e
    · rw [if_neg (fun q => by have := (d_le (by omega) (by omega)).mp q; omega), pk_sub (by omega), m_tri (by omega) (by omega), Option.bind_some, e6, ibd_nI (show 6 * (i + 1) + e < 72 by omega) (by decide), nIN (by omega), dd e (by omega), nI_add]
      have et : tv 100000 now (G (i + 1) + e) (dO G h e0 (n - 1 - (i + 1)) (i + 1) e) = tri (G (i + 1) + e - now) + (dO G h e0 (n - 1 - (i + 1)) (i + 1) e).getD 100000 := by
        unfold tv
        rw [if_pos y]
      rw [← et]
      exact fin _ l2
    · rw [if_pos ((d_le (by omega) (by omega)).mpr (by omega))]
      have et : tv 100000 now (G (i + 1) + e) (dO G h e0 (n - 1 - (i + 1)) (i + 1) e) = 100000 := by
        unfold tv
        rw [if_neg y]
      rw [et]
      exact fin 100000 (by decide)
theorem m_last {S : zSt} {n h i : Nat} (hn : n ≤ 12) (hi : i + 1 = n) (hh : h ≤ 5) (a3 v5 x6 v7 : Int32) (k : Int32 → Option (Int32 × zSt)) (f : Nat) : L_X11_backFrom_83 (nI n) (nI h) a3 (nI i) S v5 x6 k (f + 1) v7 0 = k v7 := by
  rw [L_X11_backFrom_83, if_neg (nI_pos (by omega)), nI_1, if_pos (nI_le (by omega) (by omega))]
theorem m_j53 {S : zSt} {G : Nat → Nat} {n h e0 fs i d : Nat} (g : bM S G n h) (r : rM S G n h e0 fs (i + 1)) (hi : i < n) (hd : d ≤ h) (hf : fs ≤ h) (z : G i + d < 60) (ee : e0 = 60 + G 0 + fs) (J : Int32 → Option (Int32 × zSt)) : jn (fun (x7_80 : Int32) => lt (0 : Int32) (fun x8_81 : Int32 => L_X11_backFrom_83 (nI n) (nI h) (nI fs) (nI i) S (nI d) (nI (G i + d)) (fun (w7_83 : Int32) => J w7_83) 1000 x7_80 x8_81)) (fun j80 : Int32 → Option (Int32 × zSt) => if nI i = (nI n - (1 : Int32)) then (ibd (0 : Int32) 60 ((F_X11_waitsIn ((((60 : Int32) - nI (G i + d)) + (zA S 4 (0 : Int32).toNatClampNeg)) + nI fs)).bind (fun r75 : Int32 => lt r75 (fun x7_78 : Int32 => j80 x7_78)))) else (j80 100000)) = J (nI ((dO G h e0 (n - 1 - i) i d).getD 100000)) := by
  have g' := g
  obtain ⟨h1, h2, h3, h4, h7⟩ := g'
  have hg := h4 i
  have hg0 := h4 0
  refine (jn_eq _ _).trans ?_
  rw [show nI n - 1 = nI (n - 1) from pk_sub (b := 1) h1]
  by_cases y : i = n - 1
  · rw [if_pos (by rw [y]), show (0 : Int32) = nI 0 from rfl, ibd_nI (show 0 < 60 by decide) (by decide), nIN (by decide), h7 0 (by omega), show (60 : Int32) = nI 60 from rfl, pk_sub (show G i + d ≤ 60 by omega), nI_add, nI_add, m_tri (by omega) (by omega), Option.bind_some]
    refine (lt_eq _ _).trans ?_
    refine (lt_eq _ _).trans ?_
    refine (m_last h2 (by omega) h3 _ _ _ _ _ 999).trans ?_
    rw [show n - 1 - i = 0 by omega]
    unfold dO
    rw [if_pos z, show 60 - (G i + d) + G 0 + fs = e0 - (G i + d) by omega]
    rfl
  · rw [if_neg (nI_ne y (by omega) (by omega))]
    refine (lt_eq _ _).trans ?_
    refine (m_next g r (by omega) (by omega) (by omega) _ _ _).trans ?_
    rw [show n - 1 - i = (n - 1 - (i + 1)) + 1 by omega]
    conv => rhs; unfold dO
    rw [if_pos z]
theorem m_step {S : zSt} {G : Nat → Nat} {n h e0 fs i d : Nat} (g : bM S G n h) (r : rM S G n h e0 fs (i + 1)) (hi : i < n) (hd : d ≤ h) (hf : fs ≤ h) (ee : e0 = 60 + G 0 + fs) (k : zSt → Option (Int32 × zSt)) (f : Nat) : L_X11_backFrom_13 (nI n) (nI h) (nI fs) (nI i) k (f + 1) S (nI d) = L_X11_backFrom_13 (nI n) (nI h) (nI fs) (nI i) k f (sA S 5 (upd (zA S 5) (6 * i + d) (nI ((dM G n h e0 fs i d).getD 100000)))) (nI (d + 1)) := by
  have g' := g
  obtain ⟨h1, h2, h3, h4, h7⟩ := g'
  have hg := h4 i
  rw [L_X11_backFrom_13, if_neg (nI_nlt hd (by omega)), ibd_nI (show i < 60 by omega) (by decide), nIN (by omega), h7 i hi, e6, nI_add, nI_1]
  refine (lt_eq _ _).trans ?_
  refine (lt_eq _ _).trans ?_
  refine (jn_eq _ _).trans ?_
  have J : ∀ v : Int32, ibd (nI (6 * i + d)) 72 (lt (sA S 5 (upd (zA S 5) (nI (6 * i + d)).toNatClampNeg v)) (fun S183 => lt (nI (d + 1)) (fun x5 => L_X11_backFrom_13 (nI n) (nI h) (nI fs) (nI i) k f S183 x5))) = L_X11_backFrom_13 (nI n) (nI h) (nI fs) (nI i) k f (sA S 5 (upd (zA S 5) (6 * i + d) v)) (nI (d + 1)) := fun v => by
    rw [ibd_nI (show 6 * i + d < 72 by omega) (by decide), nIN (by omega)]
    rfl
  by_cases z : G i + d < 60
  · rw [if_neg (show ¬ (59 : Int32) < nI _ from nI_nlt (a := 59) (by omega) (by decide))]
    refine (jn_eq _ _).trans ?_
    have j53 := m_j53 g r hi hd hf z ee (fun v => ibd (nI (6 * i + d)) 72 (lt (sA S 5 (upd (zA S 5) (nI (6 * i + d)).toNatClampNeg v)) (fun S183 => lt (nI (d + 1)) (fun x5 => L_X11_backFrom_13 (nI n) (nI h) (nI fs) (nI i) k f S183 x5))))
    by_cases y : 0 < i
    · rw [if_pos (show (0 : Int32) < nI i from nI_lt (a := 0) y (by omega))]
      refine (j53.trans (J _)).trans ?_
      unfold dM
      rw [if_neg (by omega)]
    · have e : i = 0 := by omega
      rw [if_neg (show ¬ (0 : Int32) < nI i from nI_nlt (b := i) (a := 0) (by omega) (by decide))]
      by_cases w : d = fs
      · rw [if_pos (by rw [w])]
        refine (j53.trans (J _)).trans ?_
        unfold dM
        rw [if_neg (fun q => q.2 w)]
      · rw [if_neg (nI_ne w (by omega) (by omega))]
        refine (J _).trans ?_
        unfold dM
        rw [if_pos ⟨e, w⟩]
        rfl
  · rw [if_pos (show (59 : Int32) < nI _ from nI_lt (a := 59) (by omega) (by omega))]
    refine (J _).trans ?_
    have : dM G n h e0 fs i d = none := by
      unfold dM
      by_cases y : i = 0 ∧ d ≠ fs
      · rw [if_pos y]
      · rw [if_neg y]
        generalize n - 1 - i = j
        cases j <;> (unfold dO; rw [if_neg z])
    rw [this]
    rfl
theorem m_row {G : Nat → Nat} {n h e0 fs b : Nat} (hb : b < n) (hf : fs ≤ h) (ee : e0 = 60 + G 0 + fs) (k : zSt → Option (Int32 × zSt)) : ∀ (j e : Nat) (S : zSt) (f : Nat), e + j = h + 1 → j < f → bM S G n h → rM S G n h e0 fs (b + 1) → (∀ d, d < e → zA S 5 (6 * b + d) = nI ((dM G n h e0 fs b d).getD 100000)) → ∃ S1, L_X11_backFrom_13 (nI n) (nI h) (nI fs) (nI b) k f S (nI e) = k S1 ∧ eS [] [5] [] S S1 ∧ rM S1 G n h e0 fs b := by
  intro j
  induction j with
  | zero =>
    intro e S f h1 h2 g r q
    obtain ⟨f, rfl⟩ : ∃ a, f = a + 1 := ⟨f - 1, by omega⟩
    have hh := g.2.2.1
    rw [L_X11_backFrom_13, if_pos (nI_lt (by omega) (by omega))]
    refine ⟨S, rfl, eS_r _ _ _ S, fun i h3 h4 d h5 => ?_⟩
    by_cases z : i = b
    · rw [z]
      exact q d (by omega)
    · exact r i (by omega) h4 d h5
  | succ j ih =>
    intro e S f h1 h2 g r q
    obtain ⟨f, rfl⟩ : ∃ a, f = a + 1 := ⟨f - 1, by omega⟩
    have hh := g.2.2.1
    have hn := g.2.1
    have fr : eS [] [5] [] S (sA S 5 (upd (zA S 5) (6 * b + e) (nI ((dM G n h e0 fs b e).getD 100000)))) := eS_A (eS_r _ _ _ S) _ _ (by decide)
    rw [m_step g r hb (by omega) hf ee]
    obtain ⟨S1, q1, q2, q3⟩ := ih (e + 1) _ f (by omega) (by omega) (bM_f (fr.2.1 4 (by decide)) g) (fun i h3 h4 d h5 => by
      rw [zA_sA, if_pos rfl, upd_n _ _ (by omega)]
      exact r i h3 h4 d h5) (fun d hd => by
      rw [zA_sA, if_pos rfl]
      by_cases z : d = e
      · rw [z, upd_s]
      · rw [upd_n _ _ (by omega)]
        exact q d (by omega))
    exact ⟨S1, q1, eS_t fr q2, q3⟩
theorem m_all {G : Nat → Nat} {n h e0 fs : Nat} (hf : fs ≤ h) (ee : e0 = 60 + G 0 + fs) (k : zSt → Option (Int32 × zSt)) : ∀ (b : Nat) (S : zSt) (f : Nat), b ≤ n → b < f → bM S G n h → rM S G n h e0 fs b → ∃ S1, L_X11_backFrom_5 (nI n) (nI h) (nI fs) k f S (nI b - 1) = k S1 ∧ eS [] [5] [] S S1 ∧ rM S1 G n h e0 fs 0 := by
  intro b
  induction b with
  | zero =>
    intro S f h1 h2 g r
    obtain ⟨f, rfl⟩ : ∃ a, f = a + 1 := ⟨f - 1, by omega⟩
    rw [L_X11_backFrom_5, if_pos (by decide)]
    exact ⟨S, rfl, eS_r _ _ _ S, r⟩
  | succ b ih =>
    intro S f h1 h2 g r
    obtain ⟨f, rfl⟩ : ∃ a, f = a + 1 := ⟨f - 1, by omega⟩
    have hh := g.2.2.1
    have hn := g.2.1
    rw [L_X11_backFrom_5, nI_pred, if_neg (nI_pos (by omega))]
    obtain ⟨S1, q1, q2, q3⟩ := m_row (G := G) (n := n) (h := h) (b := b) (by omega) hf ee (fun S => lt (nI b + (-1)) (fun x4 => L_X11_backFrom_5 (nI n) (nI h) (nI fs) k f S x4)) (h + 1) 0 S 1000 (by omega) (by omega) g r (fun d hd => by omega)
    obtain ⟨S2, q4, q5, q6⟩ := ih S1 f (by omega) (by omega) (bM_f (q2.2.1 4 (by decide)) g) q3
    refine ⟨S2, ?_, eS_t q2 q5, q6⟩
    refine (lt_eq _ _).trans ?_
    refine q1.trans ?_
    refine (lt_eq _ _).trans ?_
    rw [sub1]
    exact q4
theorem m_least {S : zSt} {G : Nat → Nat} {n h d : Nat} (g : bM S G n h) (hd : d ≤ h) : ∃ S1, F_X11_backFrom S (nI n) (nI h) (nI d) = some (nI ((dO G h (60 + G 0 + d) (n - 1) 0 d).getD 100000), S1) ∧ eS [] [5] [] S S1 ∧ rM S1 G n h (60 + G 0 + d) d 0 := by
  have hh := g.2.2.1
  have hn := g.2.1
  have h1 := g.1
  obtain ⟨S1, q1, q2, q3⟩ := m_all (G := G) (n := n) (h := h) (e0 := 60 + G 0 + d) (fs := d) hd rfl (fun S => ibd (nI d) 72 (some (zA S 5 (nI d).toNatClampNeg, S))) n S 1000 (Nat.le_refl n) (by omega) g (fun i h3 h4 => by omega)
  refine ⟨S1, ?_, q2, q3⟩
  refine (F_X11_backFrom.eq_1 S (nI n) (nI h) (nI d)).trans ?_
  refine (lt_eq _ _).trans ?_
  refine q1.trans ?_
  have e := q3 0 (Nat.le_refl 0) (by omega) d hd
  rw [show 6 * 0 + d = d by omega] at e
  unfold dM at e
  rw [if_neg (fun q => q.2 rfl), Nat.sub_zero] at e
  rw [ibd_nI (show d < 72 by omega) (by decide), nIN (by omega), e]
