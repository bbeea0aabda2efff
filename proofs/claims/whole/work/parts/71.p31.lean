-- holding: how much later each goes
def fE (p : Nat → Bool) : Nat → Nat → Nat
  | 0, e => e
  | f + 1, e => if p e = true then e else fE p f (e + 1)
theorem fE_ok (p : Nat → Bool) : ∀ f e, e ≤ fE p f e ∧ fE p f e ≤ e + f ∧ (∀ i, e ≤ i → i < fE p f e → p i = false) ∧ (fE p f e = e + f ∨ p (fE p f e) = true) := by
  intro f
  induction f with
  | zero => intro e; exact ⟨Nat.le_refl _, Nat.le_refl _, fun i h1 h2 => absurd h2 (Nat.not_lt.mpr h1), Or.inl rfl⟩
  | succ f ih =>
    intro e
    unfold fE
    by_cases h : p e = true
    · rw [if_pos h]
      exact ⟨Nat.le_refl _, by omega, fun i h1 h2 => absurd h2 (Nat.not_lt.mpr h1), Or.inr h⟩
    · rw [if_neg h]
      obtain ⟨h1, h2, h3, h4⟩ := ih (e + 1)
      refine ⟨by omega, by omega, fun i h5 h6 => ?_, ?_⟩
      · by_cases h7 : i = e
        · rw [h7]
          exact Bool.eq_false_iff.mpr h
        · exact h3 i (by omega) h6
      · rcases h4 with q | q
        · exact Or.inl (by omega)
        · exact Or.inr q
theorem fE_t {p : Nat → Bool} {h x : Nat} (hx : x ≤ h) (hp : p x = true) : p (fE p h 0) = true := by
  obtain ⟨h1, h2, h3, h4⟩ := fE_ok p h 0
  rcases h4 with q | q
  · by_cases z : x < h
    · have := h3 x (by omega) (by omega)
      rw [hp] at this
      cases this
    · have e : fE p h 0 = x := by omega
      rw [e]
      exact hp
  · exact q
def pE (G : Nat → Nat) (h e0 n k x e : Nat) : Bool := decide (thr (G k + x) (G (k + 1) + e) (dO G h e0 (n - 1 - (k + 1)) (k + 1) e) = dO G h e0 (n - 1 - k) k x)
def la (G : Nat → Nat) (h e0 n fs : Nat) : Nat → Nat
  | 0 => fs
  | k + 1 => fE (pE G h e0 n k (la G h e0 n fs k)) h 0
theorem la_s (G : Nat → Nat) (h e0 n fs k : Nat) : la G h e0 n fs (k + 1) = fE (pE G h e0 n k (la G h e0 n fs k)) h 0 := rfl
theorem dO_in {G : Nat → Nat} {h e0 j b d a : Nat} (hd : dO G h e0 j b d = some a) : G b + d < 60 := by
  apply Classical.byContradiction
  intro z
  cases j <;> (unfold dO at hd; rw [if_neg z] at hd; cases hd)
theorem la_ok {G : Nat → Nat} {h e0 n fs : Nat} (hf : fs ≤ h) (h0 : ∃ a, dO G h e0 (n - 1) 0 fs = some a) : ∀ k, k < n → la G h e0 n fs k ≤ h ∧ (∃ a, dO G h e0 (n - 1 - k) k (la G h e0 n fs k) = some a) ∧ (k + 1 < n → pE G h e0 n k (la G h e0 n fs k) (la G h e0 n fs (k + 1)) = true) := by
  have st : ∀ k x a, k + 1 < n → dO G h e0 (n - 1 - k) k x = some a → pE G h e0 n k x (fE (pE G h e0 n k x) h 0) = true := fun k x a hk ha => by
    have ha' := ha
    rw [show n - 1 - k = (n - 1 - (k + 1)) + 1 by omega] at ha'
    unfold dO at ha'
    rw [if_pos (dO_in ha)] at ha'
    obtain ⟨e, h1, h2⟩ := mO_ex _ ha'
    refine fE_t (x := e) (by omega) ?_
    unfold pE
    rw [ha]
    exact decide_eq_true h2
  intro k
  induction k with
  | zero =>
    intro hk
    refine ⟨hf, h0, fun h1 => ?_⟩
    obtain ⟨a, ha⟩ := h0
    exact st 0 fs a h1 ha
  | succ k ih =>
    intro hk
    obtain ⟨h1, ⟨a, ha⟩, h3⟩ := ih (by omega)
    have hp := h3 hk
    have le : la G h e0 n fs (k + 1) ≤ h := by
      have := (fE_ok (pE G h e0 n k (la G h e0 n fs k)) h 0).2.1
      rw [la_s]
      omega
    unfold pE at hp
    rw [ha] at hp
    obtain ⟨-, c, hc, -⟩ := thr_s (of_decide_eq_true hp)
    exact ⟨le, ⟨c, hc⟩, fun h1 => st (k + 1) _ c h1 hc⟩
theorem pE_v {K : Nat} {G : Nat → Nat} {h e0 n k x e a : Nat} (ha : dO G h e0 (n - 1 - k) k x = some a) (hK : a < K) : tv K (G k + x) (G (k + 1) + e) (dO G h e0 (n - 1 - (k + 1)) (k + 1) e) = a ↔ pE G h e0 n k x e = true := by
  unfold pE
  rw [tv_eq hK, ha]
  exact ⟨fun q => decide_eq_true q, fun q => of_decide_eq_true q⟩
theorem x_ll {S : zSt} {G : Nat → Nat} {n h e0 k x a : Nat} (g : bX' S G n h) (r : rX S G n h e0 (k + 1)) (hk : k + 1 < n) (hx : x ≤ h) (he : e0 ≤ 124) (ha : dO G h e0 (n - 1 - k) k x = some a) : F_X3_leastLater S (nI (k + 1)) (nI (G k + x)) (nI a) = some (nI (fE (pE G h e0 n k x) h 0)) := by
  have g' := g
  obtain ⟨h1, h2, h3, h4, h5, h6, h7⟩ := g'
  have hg := h4 k
  have hg1 := h4 (k + 1)
  have hb := dO_bd h4 h3 he (n - 1 - k) k x a ha
  obtain ⟨-, f2, f3, f4⟩ := fE_ok (pE G h e0 n k x) h 0
  refine (F_X3_leastLater.eq_1 S (nI (k + 1)) (nI (G k + x)) (nI a)).trans ?_
  refine (lt_eq _ _).trans ?_
  have tl' : ∀ e, e ≤ h → tv 1000000 (G k + x) (G (k + 1) + e) (dO G h e0 (n - 1 - (k + 1)) (k + 1) e) ≤ 1000000 + 7626 := fun e hee => tv_le (by omega) (dO_bd h4 h3 he (n - 1 - (k + 1)) (k + 1) e) (by omega)
  refine loopN (L := fun f (q : Int32) => L_X3_leastLater_3 S (nI (k + 1)) (nI (G k + x)) (nI a) (some (zI S 3)) f q) (st := fun i => nI i) (fE (pE G h e0 n k x) h 0) _ (fun f => ?_) (fun f i hi => ?_) 1000 0 (by omega) (by omega)
  · show L_X3_leastLater_3 S (nI (k + 1)) (nI (G k + x)) (nI a) (some (zI S 3)) (f + 1) (nI (fE (pE G h e0 n k x) h 0)) = _
    rw [L_X3_leastLater_3, h6]
    by_cases z : h ≤ fE (pE G h e0 n k x) h 0
    · rw [if_pos (nI_le z (by omega)), show fE (pE G h e0 n k x) h 0 = h by omega]
    · have p1 : pE G h e0 n k x (fE (pE G h e0 n k x) h 0) = true := by
        rcases f4 with q | q
        · omega
        · exact q
      rw [if_neg (nI_ge (by omega) (by omega)), x_thr g r hk (by omega) (by omega), Option.bind_some, (pE_v (K := 1000000) ha (by omega)).mpr p1, if_pos rfl]
  · show L_X3_leastLater_3 S (nI (k + 1)) (nI (G k + x)) (nI a) (some (zI S 3)) (f + 1) (nI i) = L_X3_leastLater_3 S (nI (k + 1)) (nI (G k + x)) (nI a) (some (zI S 3)) f (nI (i + 1))
    have p0 := f3 i (by omega) hi
    have nt := tl' i (by omega)
    rw [L_X3_leastLater_3, h6, if_neg (nI_ge (by omega) (by omega)), x_thr g r hk (by omega) (by omega), Option.bind_some, if_neg (nI_ne (fun q => by
      rw [(pE_v (K := 1000000) ha (by omega)).mp q] at p0
      cases p0) (by omega) (by omega))]
    simp only [lt, nI_1]
theorem x_cl {G : Nat → Nat} {n h e0 fs : Nat} (hf : fs ≤ h) (h0 : ∃ a, dO G h e0 (n - 1) 0 fs = some a) (he : e0 ≤ 124) : ∀ (j k : Nat) (S : zSt) (f : Nat), k + j = n → 1 ≤ k → j < f → bX' S G n h → rX S G n h e0 0 → (∀ i, i < k → zA S 13 i = nI (la G h e0 n fs i)) → ∃ S1, L_X3_chooseLater_9 (fun S => some S) f S (nI k) = some S1 ∧ eS [] [13] [] S S1 ∧ ∀ i, i < n → zA S1 13 i = nI (la G h e0 n fs i) := by
  intro j
  induction j with
  | zero =>
    intro k S f h1 hk1 h2 g r q
    obtain ⟨f, rfl⟩ : ∃ a, f = a + 1 := ⟨f - 1, by omega⟩
    have hn := g.2.1
    rw [L_X3_chooseLater_9, g.2.2.2.2.1, if_pos (nI_le (by omega) (by omega))]
    exact ⟨S, rfl, eS_r _ _ _ S, fun i hi => q i (by omega)⟩
  | succ j ih =>
    intro k S f h1 hk1 h2 g r q
    obtain ⟨f, rfl⟩ : ∃ a, f = a + 1 := ⟨f - 1, by omega⟩
    obtain ⟨k, rfl⟩ : ∃ a, k = a + 1 := ⟨k - 1, by omega⟩
    have hn := g.2.1
    have hh := g.2.2.1
    obtain ⟨l1, ⟨a, ha⟩, -⟩ := la_ok hf h0 k (by omega)
    have rv := r k (by omega) (by omega) (la G h e0 n fs k) l1
    rw [ha] at rv
    have rv : zA S (26 + k) (la G h e0 n fs k) = nI a := rv
    have fr : eS [] [13] [] S (sA S 13 (upd (zA S 13) (k + 1) (nI (la G h e0 n fs (k + 1))))) := eS_A (eS_r _ _ _ S) _ _ (by decide)
    obtain ⟨S1, q1, q2, q3⟩ := ih (k + 1 + 1) (sA S 13 (upd (zA S 13) (k + 1) (nI (la G h e0 n fs (k + 1))))) f (by omega) (by omega) (by omega) (by
      unfold bX' at *
      rw [fr.1 2 (by decide), fr.1 3 (by decide), fr.2.1 12 (by decide)]
      exact g) (fun i h3 h4 d h5 => by
      rw [zA_sA, if_neg (by omega)]
      exact r i h3 h4 d h5) (fun i hi => by
      rw [zA_sA, if_pos rfl]
      by_cases z : i = k + 1
      · rw [z, upd_s]
      · rw [upd_n _ _ z]
        exact q i (by omega))
    refine ⟨S1, ?_, eS_t fr q2, q3⟩
    rw [L_X3_chooseLater_9, g.2.2.2.2.1, if_neg (nI_ge (by omega) (by omega)), nI_pred, ibd_nI (show k < 12 by omega) (by decide), nIN (by omega), q k (by omega)]
    refine (lt_eq _ _).trans ?_
    rw [ibd_nI (show k < 12 by omega) (by decide), ibd_nI (show k < 12 by omega) (by decide), ibd_nI (show la G h e0 n fs k < 6 by omega) (by decide), nIN (by omega), rv, g.2.2.2.2.2.2 k (by omega), nI_add, x_ll g (fun i h3 h4 d h5 => r i (by omega) h4 d h5) (by omega) l1 he ha, Option.bind_some, ibd_nI (show k + 1 < 12 by omega) (by decide), nIN (by omega), nI_1]
    refine (lt_eq _ _).trans ?_
    refine (lt_eq _ _).trans ?_
    rw [← la_s]
    exact q1
theorem m_ll {S : zSt} {G : Nat → Nat} {n h e0 fs k x a : Nat} (g : bM S G n h) (r : rM S G n h e0 fs 0) (hk : k + 1 < n) (hx : x ≤ h) (he : e0 ≤ 124) (ha : dO G h e0 (n - 1 - k) k x = some a) (hk0 : k = 0 → x = fs) (e6' : zA S 6 k = nI x) (hp : pE G h e0 n k x (fE (pE G h e0 n k x) h 0) = true) (a3 w4 x7 : Int32) (kk : Int32 → Option (Int32 × zSt)) : L_X11_heldNow_176 (nI h) a3 w4 x7 S (nI (k + 1)) kk 1000 (-1) 0 = kk (nI (fE (pE G h e0 n k x) h 0)) := by
  have g' := g
  obtain ⟨h1, h2, h3, h4, h7⟩ := g'
  have hg := h4 k
  have hg1 := h4 (k + 1)
  have hb := dO_bd h4 h3 he (n - 1 - k) k x a ha
  obtain ⟨-, f2, f3, f4⟩ := fE_ok (pE G h e0 n k x) h 0
  have rv := r k (by omega) (by omega) x hx
  unfold dM at rv
  rw [if_neg (fun q => q.2 (hk0 q.1)), ha] at rv
  have rv : zA S 5 (6 * k + x) = nI a := rv
  have rn : ∀ e, e ≤ h → zA S 5 (6 * (k + 1) + e) = nI ((dO G h e0 (n - 1 - (k + 1)) (k + 1) e).getD 100000) := fun e hee => by
    rw [r (k + 1) (by omega) hk e hee]
    unfold dM
    rw [if_neg (by omega)]
  have st : ∀ f e, e ≤ h → L_X11_heldNow_176 (nI h) a3 w4 x7 S (nI (k + 1)) kk (f + 1) (-1) (nI e) = if pE G h e0 n k x e = true then L_X11_heldNow_176 (nI h) a3 w4 x7 S (nI (k + 1)) kk f (nI e) (nI (e + 1)) else L_X11_heldNow_176 (nI h) a3 w4 x7 S (nI (k + 1)) kk f (-1) (nI (e + 1)) := fun f e hee => by
    have tle := tv_le (K := 100000) (now := G k + x) (th := G (k + 1) + e) (by omega) (dO_bd h4 h3 he (n - 1 - (k + 1)) (k + 1) e) (by omega)
    rw [L_X11_heldNow_176, if_neg (nI_nlt hee (by omega)), if_pos rfl, nI_pred, ibd_nI (show k + 1 < 60 by omega) (by decide), ibd_nI (show k < 60 by omega) (by decide), ibd_nI (show k < 12 by omega) (by decide), nIN (by omega), nIN (by omega), h7 k (by omega), h7 (k + 1) hk, e6', e6, e6, Int32.sub_sub, nI_add, nI_add, nI_1]
    refine (lt_eq _ _).trans ?_
    have pv := pE_v (K := 100000) (e := e) ha (by omega)
    by_cases y : G k + x < G (k + 1) + e
    · rw [if_neg (fun q => by have := (d_le (by omega) (by omega)).mp q; omega), pk_sub (by omega), m_tri (by omega) (by omega), Option.bind_some, ibd_nI (show 6 * (k + 1) + e < 72 by omega) (by decide), ibd_nI (show k < 12 by omega) (by decide), ibd_nI (show 6 * k + x < 72 by omega) (by decide), nIN (by omega), nIN (by omega), rv, rn e hee, nI_add]
      have et : tv 100000 (G k + x) (G (k + 1) + e) (dO G h e0 (n - 1 - (k + 1)) (k + 1) e) = tri (G (k + 1) + e - (G k + x)) + (dO G h e0 (n - 1 - (k + 1)) (k + 1) e).getD 100000 := by
        unfold tv
        rw [if_pos y]
      rw [← et]
      simp only [lt]
      by_cases w : pE G h e0 n k x e = true
      · rw [if_pos w, if_pos (by rw [pv.mpr w])]
      · rw [if_neg w, if_neg (nI_ne (fun q => w (pv.mp q)) (by omega) (by omega))]
    · rw [if_pos ((d_le (by omega) (by omega)).mpr (by omega))]
      simp only [lt]
      have w : ¬ pE G h e0 n k x e = true := fun q => by
        have := pv.mpr q
        unfold tv at this
        rw [if_neg y] at this
        omega
      rw [if_neg w]
  refine loopN (L := fun f (q : Int32 × Int32) => L_X11_heldNow_176 (nI h) a3 w4 x7 S (nI (k + 1)) kk (f + 1) q.1 q.2) (st := fun i => (-1, nI i)) (fE (pE G h e0 n k x) h 0) _ (fun f => ?_) (fun f i hi => ?_) 999 0 (by omega) (by omega)
  · show L_X11_heldNow_176 (nI h) a3 w4 x7 S (nI (k + 1)) kk (f + 1 + 1) (-1) (nI (fE (pE G h e0 n k x) h 0)) = _
    rw [st _ _ (by omega), if_pos hp, L_X11_heldNow_176, if_neg (nI_m1 (by omega)), ite_self]
  · show L_X11_heldNow_176 (nI h) a3 w4 x7 S (nI (k + 1)) kk (f + 1 + 1) (-1) (nI i) = L_X11_heldNow_176 (nI h) a3 w4 x7 S (nI (k + 1)) kk (f + 1) (-1) (nI (i + 1))
    rw [st _ _ (by omega), if_neg (by rw [f3 i (by omega) hi]; decide)]
theorem m_cl {G : Nat → Nat} {n h e0 fs : Nat} (hf : fs ≤ h) (h0 : ∃ a, dO G h e0 (n - 1) 0 fs = some a) (he : e0 ≤ 124) (a3 x7 : Int32) : ∀ (j k : Nat) (S : zSt) (f : Nat), k + j = n → 1 ≤ k → j < f → bM S G n h → rM S G n h e0 fs 0 → (∀ i, i < k → zA S 6 i = nI (la G h e0 n fs i)) → ∃ S1, (∀ kk, L_X11_heldNow_163 (nI h) a3 (nI n) x7 kk f S (nI k) = kk S1) ∧ eS [] [6] [] S S1 ∧ ∀ i, i < n → zA S1 6 i = nI (la G h e0 n fs i) := by
  intro j
  induction j with
  | zero =>
    intro k S f h1 hk1 h2 g r q
    obtain ⟨f, rfl⟩ : ∃ a, f = a + 1 := ⟨f - 1, by omega⟩
    have hn := g.2.1
    exact ⟨S, fun kk => by rw [L_X11_heldNow_163, if_pos (nI_le (by omega) (by omega))], eS_r _ _ _ S, fun i hi => q i (by omega)⟩
  | succ j ih =>
    intro k S f h1 hk1 h2 g r q
    obtain ⟨f, rfl⟩ : ∃ a, f = a + 1 := ⟨f - 1, by omega⟩
    obtain ⟨k, rfl⟩ : ∃ a, k = a + 1 := ⟨k - 1, by omega⟩
    have hn := g.2.1
    have hh := g.2.2.1
    obtain ⟨l1, ⟨a, ha⟩, l3⟩ := la_ok hf h0 k (by omega)
    have fr : eS [] [6] [] S (sA S 6 (upd (zA S 6) (k + 1) (nI (la G h e0 n fs (k + 1))))) := eS_A (eS_r _ _ _ S) _ _ (by decide)
    obtain ⟨S1, q1, q2, q3⟩ := ih (k + 1 + 1) (sA S 6 (upd (zA S 6) (k + 1) (nI (la G h e0 n fs (k + 1))))) f (by omega) (by omega) (by omega) (bM_f (fr.2.1 4 (by decide)) g) (fun i h3 h4 d h5 => by
      rw [zA_sA, if_neg (by decide)]
      exact r i h3 h4 d h5) (fun i hi => by
      rw [zA_sA, if_pos rfl]
      by_cases z : i = k + 1
      · rw [z, upd_s]
      · rw [upd_n _ _ z]
        exact q i (by omega))
    refine ⟨S1, fun kk => ?_, eS_t fr q2, q3⟩
    rw [L_X11_heldNow_163, if_neg (nI_ge (by omega) (by omega))]
    refine (lt_eq _ _).trans ?_
    refine (lt_eq _ _).trans ?_
    refine (m_ll g r (by omega) l1 he ha (fun z => by rw [z]; rfl) (q k (by omega)) (l3 (by omega)) _ _ _ _).trans ?_
    rw [← la_s, ibd_nI (show k + 1 < 12 by omega) (by decide), nIN (by omega), nI_1]
    refine (lt_eq _ _).trans ?_
    refine (lt_eq _ _).trans ?_
    exact q1 kk
