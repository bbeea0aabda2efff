-- the greatest number of stays apart
def bE (f l : Nat → Nat) (a : Nat) : Nat → Option Nat
  | 0 => none
  | i + 1 => if f i < a then bE f l a i else match bE f l a i with
    | none => some (l i)
    | some v => if v ≤ l i then some v else some (l i)
theorem bE_s {f l : Nat → Nat} {a v : Nat} : ∀ i, bE f l a i = some v → ∃ j, j < i ∧ a ≤ f j ∧ v = l j
  | 0, h => by simp [bE] at h
  | i + 1, h => by
    unfold bE at h
    by_cases q : f i < a
    · rw [if_pos q] at h
      obtain ⟨j, h1, h2⟩ := bE_s i h
      exact ⟨j, by omega, h2⟩
    · rw [if_neg q] at h
      cases e : bE f l a i with
      | none =>
        rw [e] at h
        exact ⟨i, by omega, by omega, (Option.some.inj h).symm⟩
      | some w =>
        rw [e] at h
        dsimp only at h
        by_cases q2 : w ≤ l i
        · rw [if_pos q2] at h
          obtain ⟨j, h1, h2⟩ := bE_s i (e.trans h)
          exact ⟨j, by omega, h2⟩
        · rw [if_neg q2] at h
          exact ⟨i, by omega, by omega, (Option.some.inj h).symm⟩
theorem cN_mono {p q : Nat → Bool} (h : ∀ i, q i = true → p i = true) : ∀ n, cN q n ≤ cN p n
  | 0 => Nat.le_refl _
  | n + 1 => by
    have := cN_mono h n
    unfold cN
    have := h n
    cases hq : q n <;> cases hp : p n <;> simp_all <;> omega
theorem cN_lt {p q : Nat → Bool} (h : ∀ i, q i = true → p i = true) {j : Nat} (hp : p j = true) (hq : q j = false) : ∀ n, j < n → cN q n < cN p n
  | 0, hj => by omega
  | n + 1, hj => by
    unfold cN
    by_cases e : j = n
    · subst e
      have := cN_mono h j
      rw [hp, hq]
      simp
      omega
    · have := cN_lt h hp hq n (by omega)
      have := h n
      cases hq' : q n <;> cases hp' : p n <;> simp_all <;> omega
def bX : Option Nat → Int32
  | none => -1
  | some v => nI v
def bY : Option Nat → Int32
  | none => 100000
  | some v => nI v
theorem b_x {X : zSt} {f l : Nat → Nat} {n a : Nat} (hn : n ≤ 24) (ha : a ≤ 100) (e : zI X 7 = nI n) (h : ∀ i, i < n → f i ≤ 99 ∧ l i ≤ 99 ∧ zA X 19 i = nI (f i) ∧ zA X 20 i = nI (l i)) : F_X9_firstEnd X (nI a) = some (bX (bE f l a n)) := by
  unfold F_X9_firstEnd
  simp only [lt]
  refine loopN (L := fun fu (q : Int32 × Int32) => L_X9_firstEnd_4 X (nI a) (fun w => some w) fu q.1 q.2) (st := fun i => (bX (bE f l a i), nI i)) n _ (fun fu => ?_) (fun fu i hi => ?_) 1000 0 (by omega) (by omega)
  · show L_X9_firstEnd_4 X (nI a) (fun w => some w) (fu + 1) _ (nI n) = _
    rw [L_X9_firstEnd_4, if_pos (by rw [e]; exact nI_le (Nat.le_refl n) (by omega))]
  · obtain ⟨h1, h2, h3, h4⟩ := h i hi
    show L_X9_firstEnd_4 X (nI a) (fun w => some w) (fu + 1) (bX (bE f l a i)) (nI i) = L_X9_firstEnd_4 X (nI a) (fun w => some w) fu (bX (bE f l a (i + 1))) (nI (i + 1))
    rw [L_X9_firstEnd_4, if_neg (by rw [e]; exact nI_ge hi (by omega))]
    simp only [ibd_nI (show i < 24 by omega) (by omega), nIN (show i < 2 ^ 31 by omega), h3, h4, lt, nI_1]
    conv => rhs; unfold bE
    by_cases q : f i < a
    · rw [if_pos (nI_lt q (by omega)), if_pos q]
    · rw [if_neg (nI_nlt (by omega) (by omega)), if_neg q]
      cases hb : bE f l a i with
      | none => rw [if_pos (show bX none = -1 from rfl)]; rfl
      | some w =>
        obtain ⟨j, j1, -, j3⟩ := bE_s i hb
        have := (h j (by omega)).2.1
        rw [show bX (some w) = nI w from rfl, if_neg (nI_m1 (by omega))]
        dsimp only
        by_cases q2 : w ≤ l i
        · rw [if_pos (nI_le q2 (by omega)), if_pos q2]; rfl
        · rw [if_neg (nI_ge (by omega) (by omega)), if_neg q2]; rfl
theorem b_m {M : zSt} {f l : Nat → Nat} {n a : Nat} (hn : n ≤ 24) (e : zI M 5 = nI n) (h : ∀ i, i < n → f i ≤ 99 ∧ l i ≤ 99 ∧ zA M 11 i = nI (f i) ∧ zA M 12 i = nI (l i)) (v1 v2 : Int32) (hv : ∀ f : Nat, f ≤ 99 → (nI f ≤ v2 ↔ f < a)) (k : Int32 → Option Int32) : L_X11_apartNow_17 M v1 v2 k 1000 100000 0 = k (bY (bE f l a n)) := by
  refine loopN (L := fun fu (q : Int32 × Int32) => L_X11_apartNow_17 M v1 v2 k fu q.1 q.2) (st := fun i => (bY (bE f l a i), nI i)) n _ (fun fu => ?_) (fun fu i hi => ?_) 1000 0 (by omega) (by omega)
  · show L_X11_apartNow_17 M v1 v2 k (fu + 1) _ (nI n) = _
    rw [L_X11_apartNow_17, if_pos (by rw [e]; exact nI_le (Nat.le_refl n) (by omega))]
  · obtain ⟨h1, h2, h3, h4⟩ := h i hi
    show L_X11_apartNow_17 M v1 v2 k (fu + 1) (bY (bE f l a i)) (nI i) = L_X11_apartNow_17 M v1 v2 k fu (bY (bE f l a (i + 1))) (nI (i + 1))
    rw [L_X11_apartNow_17, if_neg (by rw [e]; exact nI_ge hi (by omega))]
    simp only [ibd_nI (show i < 24 by omega) (by omega), nIN (show i < 2 ^ 31 by omega), h3, h4, lt, nI_1]
    conv => rhs; unfold bE
    by_cases q : f i < a
    · rw [if_pos ((hv _ h1).mpr q), if_pos q]
    · rw [if_neg (fun z => q ((hv _ h1).mp z)), if_neg q]
      cases hb : bE f l a i with
      | none =>
        rw [show bY none = nI 100000 from rfl, if_neg (nI_ge (by omega) (by omega))]; rfl
      | some w =>
        obtain ⟨j, j1, -, j3⟩ := bE_s i hb
        have := (h j (by omega)).2.1
        rw [show bY (some w) = nI w from rfl]
        dsimp only
        by_cases q2 : w ≤ l i
        · rw [if_pos (nI_le q2 (by omega)), if_pos q2]; rfl
        · rw [if_neg (nI_ge (by omega) (by omega)), if_neg q2]; rfl
theorem b_go {X M : zSt} {f l : Nat → Nat} {n : Nat} (hn : n ≤ 24) (e : zI X 7 = nI n) (e' : zI M 5 = nI n) (h : ∀ i, i < n → f i ≤ l i ∧ l i ≤ 99 ∧ zA X 19 i = nI (f i) ∧ zA X 20 i = nI (l i) ∧ zA M 11 i = nI (f i) ∧ zA M 12 i = nI (l i)) : ∀ (m c a : Nat) (v2 : Int32) (u u' : Nat), cN (fun j => decide (a ≤ f j)) n ≤ m → c + m ≤ 24 → a ≤ 100 → (∀ f : Nat, f ≤ 99 → (nI f ≤ v2 ↔ f < a)) → m < u → m + 1 < u' → ∃ r, L_X9_mostApart_6 X (fun w => some w) u (nI c) (nI a) (nI c) = some r ∧ L_X11_apartNow_6 M (fun w => some w) u' (nI c) v2 1 = some r
  | m, c, a, v2, u, u', hm, hc, ha, hv, hu, hu' => by
    have hX := b_x (a := a) (f := f) (l := l) hn ha e (fun i hi => ⟨by have := h i hi; omega, (h i hi).2.1, (h i hi).2.2.1, (h i hi).2.2.2.1⟩)
    have hM := fun k => b_m (a := a) (f := f) (l := l) hn e' (fun i hi => ⟨by have := h i hi; omega, (h i hi).2.1, (h i hi).2.2.2.2.1, (h i hi).2.2.2.2.2⟩) (nI c) v2 hv k
    obtain ⟨u, rfl⟩ : ∃ z, u = z + 1 := ⟨u - 1, by omega⟩
    obtain ⟨u', rfl⟩ : ∃ z, u' = z + 1 := ⟨u' - 1, by omega⟩
    rw [L_X9_mostApart_6, L_X11_apartNow_6, if_neg i01, hX, Option.bind_some]
    simp only [lt, jn]
    rw [hM]
    cases hb : bE f l a n with
    | none =>
      refine ⟨nI c, ?_, ?_⟩
      · split
        · rfl
        · rfl
      · obtain ⟨u', rfl⟩ : ∃ z, u' = z + 1 := ⟨u' - 1, by omega⟩
        rw [if_pos (show (100000 : Int32) ≤ bY none from by decide), if_true, L_X11_apartNow_6, if_pos rfl]
        show some (nI c + 0) = _
        rw [Int32.add_zero]
    | some w =>
      obtain ⟨j, j1, j2, j3⟩ := bE_s n hb
      have hj := h j j1
      have lt1 : cN (fun j => decide (w + 1 ≤ f j)) n < cN (fun j => decide (a ≤ f j)) n := cN_lt (j := j) (fun i hi => by simp at hi ⊢; omega) (by simpa using j2) (by simp; omega) n j1
      rw [if_neg (show ¬ (24 : Int32) ≤ nI c from nI_ge (b := 24) (by omega) (by decide)), show bX (some w) = nI w from rfl, show bY (some w) = nI w from rfl, if_neg (nI_m1 (by omega)), if_neg (show ¬ (100000 : Int32) ≤ nI w from nI_ge (b := 100000) (by omega) (by decide)), if_neg i01, nI_1, nI_1]
      exact b_go hn e e' h (m - 1) (c + 1) (w + 1) (nI w) u u' (by omega) (by omega) (by omega) (fun f hf => ⟨fun z => by
        by_cases y : f < w + 1
        · exact y
        · exact absurd z (nI_ge (by omega) (by omega)), fun z => nI_le (by omega) (by omega)⟩) (by omega) (by omega)
termination_by m => m
decreasing_by omega
theorem hv0 : ∀ f : Nat, f ≤ 99 → (nI f ≤ (-1 : Int32) ↔ f < 0) := fun f hf => ⟨fun z => by
    rw [Int32.le_iff_toInt_le, nI_toInt (by omega)] at z
    have : (-1 : Int32).toInt = -1 := by decide
    omega, fun z => by omega⟩
theorem wfl {X M : zSt} {n : Nat} (h : ∀ i, i < n → ∃ f l : Nat, f ≤ l ∧ l ≤ 99 ∧ l ≤ f + 19 ∧ zA X 19 i = nI f ∧ zA M 11 i = nI f ∧ zA X 20 i = nI l ∧ zA M 12 i = nI l) : ∀ i, i < n → wf M i ≤ wl M i ∧ wl M i ≤ 99 ∧ zA X 19 i = nI (wf M i) ∧ zA X 20 i = nI (wl M i) ∧ zA M 11 i = nI (wf M i) ∧ zA M 12 i = nI (wl M i) := fun i hi => by
    obtain ⟨f, l, h1, h2, -, h3, h4, h5, h6⟩ := h i hi
    unfold wf wl
    rw [h3, h4, h5, h6, nIN (by omega), nIN (by omega)]
    exact ⟨h1, h2, rfl, rfl, rfl, rfl⟩
theorem f_ap1 {X M : zSt} (hR : zR X M) (u : Nat) (hu : 24 < u) (hu' : 24 + 1 < u) : ∃ r, L_X9_mostApart_6 X (fun w => some w) u (nI 0) (nI 0) (nI 0) = some r ∧ L_X11_apartNow_6 M (fun w => some w) u (nI 0) (-1) 1 = some r := by
  obtain ⟨n, hn, e, e', h⟩ := hR.2.2.2.2.1
  exact b_go hn e e' (wfl h) 24 0 0 (-1) u u (Nat.le_trans (cN_le _ _) hn) (by omega) (by omega) hv0 hu hu'
theorem f_apX (X : zSt) : F_X9_mostApart X = L_X9_mostApart_6 X (fun w => some w) 1000 0 0 0 := by
  unfold F_X9_mostApart
  simp only [lt]
theorem lt_eq {α β : Type} (x : α) (k : α → β) : lt x k = k x := rfl
theorem f_apM (X : zSt) : F_X11_apartNow X = L_X11_apartNow_6 X (fun w => some w) 1000 0 (-1) 1 := by
  refine (F_X11_apartNow.eq_1 X).trans ?_
  refine (lt_eq _ _).trans ?_
  refine (lt_eq _ _).trans ?_
  exact lt_eq _ _
theorem f_apart {X M : zSt} (hR : zR X M) : ∃ r, F_X9_mostApart X = some r ∧ F_X11_apartNow M = some r := by
  obtain ⟨r, r1, r2⟩ := f_ap1 hR 1000 (by decide) (by decide)
  rw [f_apX, f_apM]
  exact ⟨r, r1, r2⟩
theorem f_full {X M : zSt} (hR : zR X M) {k : Nat} (hk : k ≤ 2) : ∃ r, F_X10_fullest X (nI k) = some r ∧ F_X11_fullestNow M (nI k) = some r := by
  unfold F_X10_fullest
  rw [p_out, if_pos (show (0 : Int32) ≤ nI k ∧ nI k ≤ 2 from rng' (a := 0) (b := 2) (by omega) hk (by decide)), Option.bind_some, if_pos rfl]
  by_cases h2 : nI k = 2
  · obtain ⟨r, r1, r2⟩ := f_apart hR
    unfold F_X11_fullestNow
    rw [if_pos h2, if_pos h2, r1, r2]
    exact ⟨r, rfl, rfl⟩
  · obtain ⟨d, v, -, -, h3, h4, h5⟩ := f_best hR
    rw [if_neg h2, h5 _ h2, h3, Option.bind_some]
    simp only [lt]
    rw [h4]
    split
    · exact ⟨_, rfl, rfl⟩
    · exact ⟨_, rfl, rfl⟩
theorem a_fullest : ag_fullest zR := by
  intro SX SM a1 hR
  by_cases h1 : (0 : Int32) ≤ a1 ∧ a1 ≤ 2
  · obtain ⟨k, -, hk, rfl⟩ := rng 0 2 rfl rfl (by decide) (by decide) h1
    obtain ⟨r, r1, r2⟩ := f_full hR hk
    refine ⟨r, r1, ?_⟩
    unfold F_X11_fullest
    rw [p_in, if_pos h1, Option.bind_some, if_neg i01, r2]
    rfl
  · unfold F_X10_fullest F_X11_fullest
    rw [p_out, p_in, if_neg h1, if_neg h1]
    exact ⟨_, rfl, rfl⟩
