-- holding: the class
def rowsX : List Nat := [26, 27, 28, 29, 30, 31, 32, 33, 34, 35, 36, 37]
def bX' (S : zSt) (G : Nat → Nat) (n h : Nat) : Prop := 1 ≤ n ∧ n ≤ 12 ∧ h ≤ 5 ∧ (∀ i, G i ≤ 59) ∧ zI S 2 = nI n ∧ zI S 3 = nI h ∧ ∀ i, i < n → zA S 12 i = nI (G i)
def rX (S : zSt) (G : Nat → Nat) (n h e0 b : Nat) : Prop := ∀ i, b ≤ i → i < n → ∀ d, d ≤ h → zA S (26 + i) d = nI ((dO G h e0 (n - 1 - i) i d).getD 1000000)
theorem mem_rX {b : Nat} (h : b < 12) : 26 + b ∈ rowsX := by
  unfold rowsX
  have : b = 0 ∨ b = 1 ∨ b = 2 ∨ b = 3 ∨ b = 4 ∨ b = 5 ∨ b = 6 ∨ b = 7 ∨ b = 8 ∨ b = 9 ∨ b = 10 ∨ b = 11 := by omega
  rcases this with rfl | rfl | rfl | rfl | rfl | rfl | rfl | rfl | rfl | rfl | rfl | rfl <;> decide
theorem bX_f {S S1 : zSt} {G : Nat → Nat} {n h : Nat} (e : eS [] rowsX [] S S1) (b : bX' S G n h) : bX' S1 G n h := by
  unfold bX' at *
  rw [e.1 2 (by decide), e.1 3 (by decide), e.2.1 12 (by decide)]
  exact b
theorem x_tri {x : Nat} (h1 : 1 ≤ x) (h : x ≤ 200) : F_X6_waitsIn (nI x) = some (nI (tri x)) := by
  unfold F_X6_waitsIn
  rw [b2o, e_tri h1 h]
theorem x_thr {S : zSt} {G : Nat → Nat} {n h e0 b d now : Nat} (g : bX' S G n h) (r : rX S G n h e0 b) (hb : b < n) (hd : d ≤ h) (hn : now ≤ 200) : F_X3_through S (nI now) (nI b) (nI d) = some (nI (tv 1000000 now (G b + d) (dO G h e0 (n - 1 - b) b d))) := by
  obtain ⟨h1, h2, h3, h4, h5, h6, h7⟩ := g
  have hg := h4 b
  unfold F_X3_through
  rw [ibd_nI (show b < 12 by omega) (by decide), nIN (by omega), h7 b hb]
  refine (lt_eq _ _).trans ?_
  rw [nI_add]
  unfold tv
  by_cases z : now < G b + d
  · rw [if_neg (nI_ge z (by omega)), if_pos z, pk_sub (by omega), x_tri (by omega) (by omega), Option.bind_some, ibd_nI (show b < 12 by omega) (by decide), ibd_nI (show d < 6 by omega) (by decide), nIN (by omega), r b (Nat.le_refl b) hb d hd, nI_add]
  · rw [if_pos (nI_le (by omega) (by omega)), if_neg z]
    rfl
theorem x_on {S : zSt} {G : Nat → Nat} {n h e0 b d : Nat} (g : bX' S G n h) (r : rX S G n h e0 (b + 1)) (hb : b < n) (hd : d ≤ h) (he : e0 ≤ 124) (he0 : 60 ≤ e0) : F_X3_leastOnward S (nI b) (nI d) (nI e0) = some (nI ((dO G h e0 (n - 1 - b) b d).getD 1000000)) := by
  have g' := g
  obtain ⟨h1, h2, h3, h4, h5, h6, h7⟩ := g'
  have hg := h4 b
  refine (F_X3_leastOnward.eq_1 S (nI b) (nI d) (nI e0)).trans ?_
  rw [ibd_nI (show b < 12 by omega) (by decide), nIN (by omega), h7 b hb]
  refine (lt_eq _ _).trans ?_
  rw [nI_add, h5, show nI n - 1 = nI (n - 1) from pk_sub (b := 1) h1]
  by_cases z : G b + d < 60
  · rw [if_pos (show nI _ < (60 : Int32) from nI_lt (b := 60) z (by decide))]
    by_cases y : b = n - 1
    · rw [if_pos (by rw [y]), pk_sub (by omega), x_tri (by omega) (by omega), show n - 1 - b = 0 by omega]
      unfold dO
      rw [if_pos z]
      rfl
    · rw [if_neg (nI_ne y (by omega) (by omega))]
      refine (lt_eq _ _).trans ?_
      refine (lt_eq _ _).trans ?_
      have ej : n - 1 - b = (n - 1 - (b + 1)) + 1 := by omega
      rw [ej]
      unfold dO
      rw [if_pos z]
      have hg1 := h4 (b + 1)
      have bb : ∀ e, e < h + 1 → bd 91512 (thr (G b + d) (G (b + 1) + e) (dO G h e0 (n - 1 - (b + 1)) (b + 1) e)) := fun e he1 a ha => by
        have := thr_bd (by omega) (dO_bd h4 h3 he (n - 1 - (b + 1)) (b + 1) e) a ha
        omega
      refine loopN (L := fun f (q : Int32 × Int32) => L_X3_leastOnward_45 S (nI b) (nI (G b + d)) (fun w => some w) f q.1 q.2) (st := fun i => (nI ((mO (fun e => thr (G b + d) (G (b + 1) + e) (dO G h e0 (n - 1 - (b + 1)) (b + 1) e)) i).getD 1000000), nI i)) (h + 1) _ (fun f => ?_) (fun f i hi => ?_) 1000 0 (by omega) (by omega)
      · show L_X3_leastOnward_45 S (nI b) (nI (G b + d)) (fun w => some w) (f + 1) _ (nI (h + 1)) = _
        rw [L_X3_leastOnward_45, h6, if_pos (nI_lt (by omega) (by omega))]
      · show L_X3_leastOnward_45 S (nI b) (nI (G b + d)) (fun w => some w) (f + 1) (nI ((mO (fun e => thr (G b + d) (G (b + 1) + e) (dO G h e0 (n - 1 - (b + 1)) (b + 1) e)) i).getD 1000000)) (nI i) = L_X3_leastOnward_45 S (nI b) (nI (G b + d)) (fun w => some w) f (nI ((om (mO (fun e => thr (G b + d) (G (b + 1) + e) (dO G h e0 (n - 1 - (b + 1)) (b + 1) e)) i) (thr (G b + d) (G (b + 1) + i) (dO G h e0 (n - 1 - (b + 1)) (b + 1) i))).getD 1000000)) (nI (i + 1))
        have b1 := bd_m bb (m := i) (by omega)
        have l1 := g_le b1 (show 91512 ≤ 1000000 by decide)
        have l2 := tv_le (K := 1000000) (now := G b + d) (th := G (b + 1) + i) (by omega) (dO_bd h4 h3 he (n - 1 - (b + 1)) (b + 1) i) (by omega)
        rw [L_X3_leastOnward_45, h6, if_neg (nI_nlt (show i ≤ h by omega) (by omega)), nI_1, x_thr g r (by omega) (by omega) (by omega), Option.bind_some, om_v b1 (bb i hi) (by decide)]
        simp only [lt, nI_1]
        rw [q_min _ _ (by omega) (by omega)]
  · rw [if_neg (show ¬ nI _ < (60 : Int32) from nI_nlt (b := 60) (by omega) (by omega))]
    have : ∀ j, dO G h e0 j b d = none := fun j => by
      cases j <;> (unfold dO; rw [if_neg z])
    rw [this]
    rfl
theorem x_row {G : Nat → Nat} {n h e0 b : Nat} (hb : b < n) (he : e0 ≤ 124) (he0 : 60 ≤ e0) (a1 : Int32) (k : zSt → Option (Int32 × zSt)) : ∀ (j e : Nat) (S : zSt) (f : Nat), e + j = h + 1 → j < f → bX' S G n h → rX S G n h e0 (b + 1) → (∀ d, d < e → zA S (26 + b) d = nI ((dO G h e0 (n - 1 - b) b d).getD 1000000)) → ∃ S1, L_X3_leastWithFirst_26 a1 (nI e0) (nI b) k f S (nI e) = k S1 ∧ eS [] rowsX [] S S1 ∧ rX S1 G n h e0 b := by
  intro j
  induction j with
  | zero =>
    intro e S f h1 h2 g r q
    obtain ⟨f, rfl⟩ : ∃ a, f = a + 1 := ⟨f - 1, by omega⟩
    have hh := g.2.2.1
    rw [L_X3_leastWithFirst_26, g.2.2.2.2.2.1, if_pos (nI_lt (by omega) (by omega))]
    refine ⟨S, rfl, eS_r _ _ _ S, fun i h3 h4 d h5 => ?_⟩
    by_cases z : i = b
    · rw [z]
      exact q d (by omega)
    · exact r i (by omega) h4 d h5
  | succ j ih =>
    intro e S f h1 h2 g r q
    obtain ⟨f, rfl⟩ : ∃ a, f = a + 1 := ⟨f - 1, by omega⟩
    have hh := g.2.2.1
    have hn := g.2.1
    have fr : eS [] rowsX [] S (sA S (26 + b) (upd (zA S (26 + b)) e (nI ((dO G h e0 (n - 1 - b) b e).getD 1000000)))) := eS_A (eS_r _ _ _ S) _ _ (mem_rX (by omega))
    rw [L_X3_leastWithFirst_26, g.2.2.2.2.2.1, if_neg (nI_nlt (show e ≤ h by omega) (by omega)), ibd_nI (show b < 12 by omega) (by decide), x_on g r hb (by omega) he he0, Option.bind_some, ibd_nI (show e < 6 by omega) (by decide), nIN (by omega), nIN (by omega)]
    simp only [lt, nI_1]
    obtain ⟨S1, q1, q2, q3⟩ := ih (e + 1) _ f (by omega) (by omega) (bX_f fr g) (fun i h3 h4 d h5 => by
      rw [zA_sA, if_neg (by omega)]
      exact r i h3 h4 d h5) (fun d hd => by
      rw [zA_sA, if_pos rfl]
      by_cases z : d = e
      · rw [z, upd_s]
      · rw [upd_n _ _ z]
        exact q d (by omega))
    exact ⟨S1, q1, eS_t fr q2, q3⟩
theorem sub1 (b : Nat) : nI b + (-1) = nI b - 1 := (Int32.sub_eq_add_neg ..).symm
theorem x_all {G : Nat → Nat} {n h e0 : Nat} (he : e0 ≤ 124) (he0 : 60 ≤ e0) (a1 : Int32) (k : zSt → Option (Int32 × zSt)) : ∀ (b : Nat) (S : zSt) (f : Nat), b ≤ n → b < f → bX' S G n h → rX S G n h e0 b → ∃ S1, L_X3_leastWithFirst_19 a1 (nI e0) k f S (nI b - 1) = k S1 ∧ eS [] rowsX [] S S1 ∧ rX S1 G n h e0 0 := by
  intro b
  induction b with
  | zero =>
    intro S f h1 h2 g r
    obtain ⟨f, rfl⟩ : ∃ a, f = a + 1 := ⟨f - 1, by omega⟩
    rw [L_X3_leastWithFirst_19, if_pos (by decide)]
    exact ⟨S, rfl, eS_r _ _ _ S, r⟩
  | succ b ih =>
    intro S f h1 h2 g r
    obtain ⟨f, rfl⟩ : ∃ a, f = a + 1 := ⟨f - 1, by omega⟩
    have hh := g.2.2.1
    have hn := g.2.1
    rw [L_X3_leastWithFirst_19, nI_pred, if_neg (nI_pos (by omega))]
    obtain ⟨S1, q1, q2, q3⟩ := x_row (G := G) (n := n) (h := h) (b := b) (by omega) he he0 a1 (fun S => lt (nI b + (-1)) (fun x3 => L_X3_leastWithFirst_19 a1 (nI e0) k f S x3)) (h + 1) 0 S 1000 (by omega) (by omega) g r (fun d hd => by omega)
    obtain ⟨S2, q4, q5, q6⟩ := ih S1 f (by omega) (by omega) (bX_f q2 g) q3
    refine ⟨S2, ?_, eS_t q2 q5, q6⟩
    refine (lt_eq _ _).trans ?_
    refine q1.trans ?_
    refine (lt_eq _ _).trans ?_
    rw [sub1]
    exact q4
theorem x_least {S : zSt} {G : Nat → Nat} {n h d : Nat} (g : bX' S G n h) (hd : d ≤ h) : ∃ S1, F_X3_leastWithFirst S (nI d) = some (nI ((dO G h (60 + G 0 + d) (n - 1) 0 d).getD 1000000), S1) ∧ eS [] rowsX [] S S1 ∧ rX S1 G n h (60 + G 0 + d) 0 := by
  have hh := g.2.2.1
  have hn := g.2.1
  have h1 := g.1
  have hg := g.2.2.2.1 0
  obtain ⟨S1, q1, q2, q3⟩ := x_all (G := G) (n := n) (h := h) (e0 := 60 + G 0 + d) (by omega) (by omega) (nI d) (fun S => ibd 0 12 (ibd (nI d) 6 (some (zA S (26 + (0 : Int32).toNatClampNeg) (nI d).toNatClampNeg, S)))) n S 1000 (Nat.le_refl n) (by omega) g (fun i h3 h4 => by omega)
  refine ⟨S1, ?_, q2, q3⟩
  refine (F_X3_leastWithFirst.eq_1 S (nI d)).trans ?_
  rw [show (0 : Int32) = nI 0 from rfl, ibd_nI (show 0 < 12 by decide) (by decide), nIN (by decide), g.2.2.2.2.2.2 0 (by omega)]
  refine (lt_eq _ _).trans ?_
  rw [g.2.2.2.2.1, show (60 : Int32) = nI 60 from rfl, nI_add, nI_add]
  refine (lt_eq _ _).trans ?_
  refine q1.trans ?_
  have e := q3 0 (Nat.le_refl 0) (by omega) d hd
  rw [Nat.sub_zero] at e
  rw [show (0 : Int32) = nI 0 from rfl, ibd_nI (show 0 < 12 by decide) (by decide), ibd_nI (show d < 6 by omega) (by decide), nIN (by decide), nIN (by omega), e]
