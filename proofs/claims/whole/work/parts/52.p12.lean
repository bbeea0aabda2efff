-- the towns' chances
def cv (M : zSt) (t n : Nat) : Nat := (zA M 10 (9 * t + n)).toNatClampNeg
theorem c_v {X M : zSt} (hR : zR X M) {t n : Nat} (ht : t < 4) (h1 : 1 ≤ n) (h8 : n ≤ 8) : cv M t n ≤ 9 ∧ zA X (38 + t) n = nI (cv M t n) ∧ zA M 10 (9 * t + n) = nI (cv M t n) := by
  obtain ⟨v, v9, e1, e2⟩ := hR.2.2.2.1 t ht n h1 h8
  unfold cv
  rw [e2, nIN (by omega)]
  exact ⟨v9, e1, rfl⟩
def cT (M : zSt) (t : Nat) : Nat := sN (fun i => (i + 1) * cv M t (i + 1)) 8
theorem cT_le {X M : zSt} (hR : zR X M) {t : Nat} (ht : t < 4) : cT M t ≤ 324 := by
  have h1 := (c_v hR ht (n := 1) (by omega) (by omega)).1
  have h2 := (c_v hR ht (n := 2) (by omega) (by omega)).1
  have h3 := (c_v hR ht (n := 3) (by omega) (by omega)).1
  have h4 := (c_v hR ht (n := 4) (by omega) (by omega)).1
  have h5 := (c_v hR ht (n := 5) (by omega) (by omega)).1
  have h6 := (c_v hR ht (n := 6) (by omega) (by omega)).1
  have h7 := (c_v hR ht (n := 7) (by omega) (by omega)).1
  have h8 := (c_v hR ht (n := 8) (by omega) (by omega)).1
  unfold cT
  simp only [sN, Nat.reduceAdd]
  omega
theorem e9 {t i : Nat} : (9 : Int32) * nI t + nI i = nI (9 * t + i) := by
  rw [show (9 : Int32) = nI 9 from rfl, pk_mul, nI_add]
theorem c_ch {X M : zSt} (hR : zR X M) {t : Nat} (ht : t < 4) : F_X1_childrenOf X (nI t) = some (nI (cT M t)) ∧ F_X11_childrenOf M (nI t) = some (nI (cT M t)) := by
  constructor
  · unfold F_X1_childrenOf
    simp only [lt]
    refine loopN (L := fun f (q : Int32 × Int32) => L_X1_childrenOf_4 X (nI t) (fun w => some w) f q.1 q.2) (st := fun i => (nI (sN (fun i => (i + 1) * cv M t (i + 1)) i), nI (i + 1))) 8 _ (fun f => ?_) (fun f i hi => ?_) 1000 0 (by omega) (by omega)
    · show L_X1_childrenOf_4 X (nI t) (fun w => some w) (f + 1) _ (nI 9) = _
      rw [L_X1_childrenOf_4, if_pos (by decide)]
      rfl
    · show L_X1_childrenOf_4 X (nI t) (fun w => some w) (f + 1) (nI (sN (fun i => (i + 1) * cv M t (i + 1)) i)) (nI (i + 1)) = L_X1_childrenOf_4 X (nI t) (fun w => some w) f (nI (sN (fun i => (i + 1) * cv M t (i + 1)) i + (i + 1) * cv M t (i + 1))) (nI (i + 1 + 1))
      rw [L_X1_childrenOf_4, if_neg (show ¬ (8 : Int32) < nI (i + 1) from nI_nlt (a := 8) (by omega) (by decide))]
      simp only [ibd_nI ht (by omega), ibd_nI (show i + 1 < 9 by omega) (by omega), nIN (show i + 1 < 2 ^ 31 by omega), nIN (show t < 2 ^ 31 by omega), (c_v hR ht (n := i + 1) (by omega) (by omega)).2.1, lt, nI_1, pk_mul, nI_add]
  · unfold F_X11_childrenOf
    simp only [lt]
    refine loopN (L := fun f (q : Int32 × Int32) => L_X11_childrenOf_4 M (nI t) (fun w => some w) f q.1 q.2) (st := fun i => (nI (sN (fun i => (i + 1) * cv M t (i + 1)) i), nI (i + 1))) 8 _ (fun f => ?_) (fun f i hi => ?_) 1000 0 (by omega) (by omega)
    · show L_X11_childrenOf_4 M (nI t) (fun w => some w) (f + 1) _ (nI 9) = _
      rw [L_X11_childrenOf_4, if_pos (by decide)]
      rfl
    · show L_X11_childrenOf_4 M (nI t) (fun w => some w) (f + 1) (nI (sN (fun i => (i + 1) * cv M t (i + 1)) i)) (nI (i + 1)) = L_X11_childrenOf_4 M (nI t) (fun w => some w) f (nI (sN (fun i => (i + 1) * cv M t (i + 1)) i + (i + 1) * cv M t (i + 1))) (nI (i + 1 + 1))
      rw [L_X11_childrenOf_4, if_neg (show ¬ (9 : Int32) ≤ nI (i + 1) from nI_ge (b := 9) (by omega) (by decide)), e9]
      simp only [ibd_nI (show 9 * t + (i + 1) < 36 by omega) (by omega), nIN (show 9 * t + (i + 1) < 2 ^ 31 by omega), (c_v hR ht (n := i + 1) (by omega) (by omega)).2.2, lt, nI_1, pk_mul, nI_add]
/-- a product -/
def pN (g : Nat → Nat) : Nat → Nat
  | 0 => 1
  | n + 1 => pN g n * g n
theorem pN_le (g s : Nat → Nat) (B : Nat) : ∀ n, (∀ i, i < n → g i ≤ B ^ s i) → pN g n ≤ B ^ sN s n
  | 0, _ => by simp [pN, sN]
  | n + 1, h => by
    unfold pN sN
    rw [Nat.pow_add]
    exact Nat.mul_le_mul (pN_le g s B n (fun i hi => h i (by omega))) (h n (by omega))
theorem sN_one {p : Nat → Bool} : ∀ m, (∀ i j, i < m → j < m → p i = true → p j = true → i = j) → sN (fun i => if p i then 1 else 0) m ≤ 1
  | 0, _ => by simp [sN]
  | m + 1, h => by
    have ih := sN_one m (fun i j hi hj => h i j (by omega) (by omega))
    unfold sN
    by_cases q : p m = true
    · have : sN (fun i => if p i then 1 else 0) m ≤ m * 0 := sN_le' _ 0 m (fun i hi => by
        by_cases r : p i = true
        · exact absurd (h i m (by omega) (by omega) r q) (by omega)
        · simp [r])
      rw [Nat.mul_zero] at this
      rw [if_pos q]
      omega
    · rw [if_neg q]; omega
theorem sN_add (g h : Nat → Nat) : ∀ m, sN (fun i => g i + h i) m = sN g m + sN h m
  | 0 => rfl
  | m + 1 => by
    unfold sN
    rw [sN_add g h m]
    omega
theorem sN_cong {g h : Nat → Nat} : ∀ m, (∀ i, i < m → g i = h i) → sN g m = sN h m
  | 0, _ => rfl
  | m + 1, e => by
    unfold sN
    rw [sN_cong m (fun i hi => e i (by omega)), e m (by omega)]
def sv (M : zSt) (n i : Nat) : Nat := cN (sp M (nI (i + 1))) n
theorem s_le (M : zSt) : ∀ n, sN (sv M n) 8 ≤ cN (sco M) n
  | 0 => by simp [sN, sv, cN]
  | n + 1 => by
    have ih := s_le M n
    have e : sN (sv M (n + 1)) 8 = sN (sv M n) 8 + sN (fun i => if sp M (nI (i + 1)) n then 1 else 0) 8 := by
      rw [← sN_add]
      refine sN_cong 8 (fun i hi => ?_)
      rfl
    have e2 : cN (sco M) (n + 1) = cN (sco M) n + if sco M n then 1 else 0 := rfl
    rw [e, e2]
    by_cases q : sco M n = true
    · have := sN_one (p := fun i => sp M (nI (i + 1)) n) 8 (fun i j hi hj h1 h2 => by
        unfold sp at h1 h2
        simp only [Bool.and_eq_true, decide_eq_true_eq] at h1 h2
        have := (nI_eq (by omega) (by omega)).mp (h1.2.symm.trans h2.2)
        omega)
      rw [if_pos q]
      omega
    · have : sN (fun i => if sp M (nI (i + 1)) n then 1 else 0) 8 ≤ 8 * 0 := sN_le' _ 0 8 (fun i hi => by
        unfold sp
        simp [q])
      omega
def fit (M : zSt) (n t : Nat) : Nat := pN (fun i => ch ((i + 1) * cv M t (i + 1)) (sv M n i)) 8
theorem sv_le {M : zSt} {n : Nat} (hc : cN (sco M) n ≤ 8) {i : Nat} (hi : i < 8) : sv M n i ≤ 8 := by
  refine Nat.le_trans (cN_mono (p := sco M) (fun j hj => ?_) n) hc
  unfold sp at hj
  simp only [Bool.and_eq_true] at hj
  exact hj.1
theorem fit_le {X M : zSt} (hR : zR X M) {n t : Nat} (ht : t < 4) (hc : cN (sco M) n ≤ 8) : fit M n t < 2 ^ 62 := by
  have h := pN_le (fun i => ch ((i + 1) * cv M t (i + 1)) (sv M n i)) (sv M n) 72 8 (fun i hi => by
    refine Nat.le_trans (ch_pw _ _) (Nat.pow_le_pow_left ?_ _)
    have := (c_v hR ht (n := i + 1) (by omega) (by omega)).1
    have : (i + 1) * cv M t (i + 1) ≤ 8 * 9 := Nat.mul_le_mul (by omega) this
    omega)
  have h2 : 72 ^ sN (sv M n) 8 ≤ 72 ^ 8 := Nat.pow_le_pow_right (by omega) (Nat.le_trans (s_le M n) hc)
  have h3 : 72 ^ 8 < 2 ^ 62 := by decide
  exact Nat.lt_of_le_of_lt (Nat.le_trans h h2) h3
theorem c_fit {X M : zSt} (hR : zR X M) {n t : Nat} (ht : t < 4) (hc : cN (sco M) n ≤ 8) (hS : ∀ i, i < 8 → F_X7_saying X (nI (i + 1)) = some (nI (sv M n i)) ∧ F_X11_saidOf M (nI (i + 1)) = some (nI (sv M n i))) : F_X1_choicesThatFit X (nI t) = some (lN (fit M n t)) ∧ F_X11_choices M (nI t) = some (lN (fit M n t)) := by
  have hb : ∀ i, i < 8 → (i + 1) * cv M t (i + 1) ≤ 324 := fun i hi => by
    have := (c_v hR ht (n := i + 1) (by omega) (by omega)).1
    have : (i + 1) * cv M t (i + 1) ≤ 8 * 9 := Nat.mul_le_mul (by omega) this
    omega
  constructor
  · unfold F_X1_choicesThatFit
    simp only [lt]
    refine loopN (L := fun f (q : Int64 × Int32) => L_X1_choicesThatFit_5 X (nI t) (fun w => some w) f q.1 q.2) (st := fun i => (lN (pN (fun i => ch ((i + 1) * cv M t (i + 1)) (sv M n i)) i), nI (i + 1))) 8 _ (fun f => ?_) (fun f i hi => ?_) 1000 0 (by omega) (by omega)
    · show L_X1_choicesThatFit_5 X (nI t) (fun w => some w) (f + 1) _ (nI 9) = _
      rw [L_X1_choicesThatFit_5, if_pos (by decide)]
      rfl
    · show L_X1_choicesThatFit_5 X (nI t) (fun w => some w) (f + 1) (lN (pN (fun i => ch ((i + 1) * cv M t (i + 1)) (sv M n i)) i)) (nI (i + 1)) = L_X1_choicesThatFit_5 X (nI t) (fun w => some w) f (lN (pN (fun i => ch ((i + 1) * cv M t (i + 1)) (sv M n i)) i * ch ((i + 1) * cv M t (i + 1)) (sv M n i))) (nI (i + 1 + 1))
      rw [L_X1_choicesThatFit_5, if_neg (show ¬ (8 : Int32) < nI (i + 1) from nI_nlt (a := 8) (by omega) (by decide)), (hS i hi).1]
      simp only [ibd_nI ht (by omega), ibd_nI (show i + 1 < 9 by omega) (by omega), nIN (show i + 1 < 2 ^ 31 by omega), nIN (show t < 2 ^ 31 by omega), (c_v hR ht (n := i + 1) (by omega) (by omega)).2.1, lt, nI_1, pk_mul, Option.bind_some]
      rw [ch_x (hb i hi) (sv_le hc hi), Option.bind_some, lN_mul]
  · unfold F_X11_choices
    simp only [lt]
    refine loopN (L := fun f (q : Int64 × Int32) => L_X11_choices_5 M (nI t) (fun w => some w) f q.1 q.2) (st := fun i => (lN (pN (fun i => ch ((i + 1) * cv M t (i + 1)) (sv M n i)) i), nI (i + 1))) 8 _ (fun f => ?_) (fun f i hi => ?_) 1000 0 (by omega) (by omega)
    · show L_X11_choices_5 M (nI t) (fun w => some w) (f + 1) _ (nI 9) = _
      rw [L_X11_choices_5, if_pos (by decide)]
      rfl
    · show L_X11_choices_5 M (nI t) (fun w => some w) (f + 1) (lN (pN (fun i => ch ((i + 1) * cv M t (i + 1)) (sv M n i)) i)) (nI (i + 1)) = L_X11_choices_5 M (nI t) (fun w => some w) f (lN (pN (fun i => ch ((i + 1) * cv M t (i + 1)) (sv M n i)) i * ch ((i + 1) * cv M t (i + 1)) (sv M n i))) (nI (i + 1 + 1))
      rw [L_X11_choices_5, if_neg (show ¬ (9 : Int32) ≤ nI (i + 1) from nI_ge (b := 9) (by omega) (by decide)), (hS i hi).2, e9]
      simp only [ibd_nI (show 9 * t + (i + 1) < 36 by omega) (by omega), nIN (show 9 * t + (i + 1) < 2 ^ 31 by omega), (c_v hR ht (n := i + 1) (by omega) (by omega)).2.2, lt, nI_1, pk_mul, Option.bind_some]
      rw [ch_m (hb i hi) (sv_le hc hi), Option.bind_some, lN_mul]
theorem c_chance {X M : zSt} (hR : zR X M) {t : Nat} (ht : t < 4) {w : Int32} (hw : (0 : Int32) ≤ w ∧ w ≤ 1) : ∃ r, F_X10_chance X (nI t) w = some r ∧ F_X11_chance M (nI t) w = some r := by
  obtain ⟨n, hn, -, h1, h2, h3, -⟩ := g_all hR
  have c1 := cN_le (sco M) n
  have b := cT_le hR ht
  obtain ⟨x1, x2⟩ := c_ch hR ht
  have hr : (0 : Int32) ≤ nI t ∧ nI t ≤ 3 := rng' (a := 0) (b := 3) (by omega) (by omega) (by decide)
  unfold F_X10_chance F_X11_chance F_X1_hasFewer F_X1_choices
  rw [p_out, p_in, if_pos hr, if_pos hr, Option.bind_some, Option.bind_some]
  simp only [jn]
  rw [if_true, if_neg i01, p_out, p_in, if_pos hw, if_pos hw, Option.bind_some, Option.bind_some, if_pos rfl, if_neg i01, h1, h2, x1, x2]
  simp only [Option.bind_some, lt]
  by_cases hc : cN (sco M) n ≤ 8
  · rw [if_pos (show nI (cN (sco M) n) ≤ 8 from nI_le (b := 8) hc (by decide)), if_pos (show nI (cN (sco M) n) ≤ 8 from nI_le (b := 8) hc (by decide))]
    by_cases hd : cN (sco M) n ≤ cT M t
    · rw [if_pos (nI_le hd (by omega)), if_pos (nI_le hd (by omega)), Option.bind_some, if_pos rfl]
      obtain ⟨y1, y2⟩ := c_fit hR ht hc (fun i hi => ⟨(h3 i hi).1, (h3 i hi).2.1⟩)
      rw [y1, y2, ch_x b hc, ch_m b hc]
      simp only [Option.bind_some]
      have b1 := fit_le hR ht hc
      have b2 := ch_b b hc
      obtain ⟨r, r1, r2⟩ := fr_eq (a := fit M n t) (b := ch (cT M t) (cN (sco M) n)) (by omega) (ch_pos _ _ hd) (by omega) w
      rw [r1, r2]
      exact ⟨r, rfl, rfl⟩
    · rw [if_neg (nI_ge (by omega) (by omega)), if_neg (nI_ge (by omega) (by omega)), Option.bind_some, if_neg i01]
      exact ⟨_, rfl, rfl⟩
  · rw [if_neg (show ¬ nI (cN (sco M) n) ≤ 8 from nI_ge (a := 8) (by omega) (by omega)), if_neg (show ¬ nI (cN (sco M) n) ≤ 8 from nI_ge (a := 8) (by omega) (by omega))]
    exact ⟨_, rfl, rfl⟩
theorem a_chance : ag_chance zR := by
  intro SX SM a1 a2 hR
  by_cases h2 : (0 : Int32) ≤ a1 ∧ a1 ≤ 3
  · by_cases h3 : (0 : Int32) ≤ a2 ∧ a2 ≤ 1
    · obtain ⟨t, -, ht, rfl⟩ := rng 0 3 rfl rfl (by decide) (by decide) h2
      exact c_chance hR (by omega) h3
    · unfold F_X10_chance F_X11_chance
      rw [p_out, p_in, if_pos h2, if_pos h2, Option.bind_some, Option.bind_some]
      simp only [jn]
      rw [if_true, if_neg i01, p_out, p_in, if_neg h3, if_neg h3]
      exact ⟨_, rfl, rfl⟩
  · unfold F_X10_chance F_X11_chance
    rw [p_out, p_in, if_neg h2, if_neg h2]
    exact ⟨_, rfl, rfl⟩
