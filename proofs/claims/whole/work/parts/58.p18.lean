-- the rod
theorem sN_ge {g : Nat → Nat} {i : Nat} : ∀ n, i < n → g i ≤ sN g n
  | 0, h => by omega
  | n + 1, h => by
    unfold sN
    by_cases e : i = n
    · subst e; omega
    · have := sN_ge (g := g) n (show i < n by omega)
      omega
def gR (X M : zSt) (n : Nat) (len : Nat → Nat) : Prop := n ≤ 8 ∧ zI X 8 = nI n ∧ zI M 6 = nI n ∧ ∀ i, i < n → 1 ≤ len i ∧ len i ≤ 20 ∧ zA X 22 i = nI (len i) ∧ zA M 14 i = nI (len i)
theorem k_T {X M : zSt} {n : Nat} {len : Nat → Nat} (g : gR X M n len) : sN len n ≤ 160 := by
  have := sN_le' len 20 n (fun i hi => (g.2.2.2 i hi).2.1)
  have := g.1
  omega
theorem k_len {X M : zSt} {n : Nat} {len : Nat → Nat} (g : gR X M n len) : F_X4_lengthInAll X = some (nI (sN len n)) := by
  have g1 := g.1
  refine (F_X4_lengthInAll.eq_1 X).trans ?_
  refine (lt_eq _ _).trans ?_
  refine (lt_eq _ _).trans ?_
  refine loopN (L := fun f (q : Int32 × Int32) => L_X4_lengthInAll_4 X (fun w => some w) f q.1 q.2) (st := fun i => (nI (sN len i), nI i)) n _ (fun f => ?_) (fun f i hi => ?_) 1000 0 (by omega) (by omega)
  · show L_X4_lengthInAll_4 X (fun w => some w) (f + 1) _ (nI n) = _
    rw [L_X4_lengthInAll_4, if_pos (by rw [g.2.1]; exact nI_le (Nat.le_refl n) (by omega))]
  · show L_X4_lengthInAll_4 X (fun w => some w) (f + 1) (nI (sN len i)) (nI i) = L_X4_lengthInAll_4 X (fun w => some w) f (nI (sN len i + len i)) (nI (i + 1))
    rw [L_X4_lengthInAll_4, if_neg (by rw [g.2.1]; exact nI_ge hi (by omega)), ibd_nI (by omega) (by omega), nIN (by omega), (g.2.2.2 i hi).2.2.1]
    simp only [lt, nI_1, nI_add]
theorem k_whole {X M : zSt} {n : Nat} {len : Nat → Nat} (g : gR X M n len) : F_X11_whole M = some (nI (sN len n)) := by
  have g1 := g.1
  refine (F_X11_whole.eq_1 M).trans ?_
  refine (lt_eq _ _).trans ?_
  refine (lt_eq _ _).trans ?_
  refine loopN (L := fun f (q : Int32 × Int32) => L_X11_whole_4 M (fun w => some w) f q.1 q.2) (st := fun i => (nI (sN len i), nI i)) n _ (fun f => ?_) (fun f i hi => ?_) 1000 0 (by omega) (by omega)
  · show L_X11_whole_4 M (fun w => some w) (f + 1) _ (nI n) = _
    rw [L_X11_whole_4, if_pos (by rw [g.2.2.1]; exact nI_le (Nat.le_refl n) (by omega))]
  · show L_X11_whole_4 M (fun w => some w) (f + 1) (nI (sN len i)) (nI i) = L_X11_whole_4 M (fun w => some w) f (nI (sN len i + len i)) (nI (i + 1))
    rw [L_X11_whole_4, if_neg (by rw [g.2.2.1]; exact nI_ge hi (by omega)), ibd_nI (by omega) (by omega), nIN (by omega), (g.2.2.2 i hi).2.2.2]
    simp only [lt, nI_1, nI_add]
theorem k_pX (a : Nat) {k : Nat} (hk : k ≤ 5) : F_X4_power (lN a) (nI k) = some (lN (a ^ k)) := by
  refine (F_X4_power.eq_1 (lN a) (nI k)).trans ?_
  refine (lt_eq _ _).trans ?_
  refine (lt_eq _ _).trans ?_
  refine loopN (L := fun f (q : Int64 × Int32) => L_X4_power_5 (lN a) (nI k) (fun w => some w) f q.1 q.2) (st := fun i => (lN (a ^ i), nI i)) k _ (fun f => ?_) (fun f i hi => ?_) 1000 0 (by omega) (by omega)
  · show L_X4_power_5 (lN a) (nI k) (fun w => some w) (f + 1) _ (nI k) = _
    rw [L_X4_power_5, if_pos (nI_le (Nat.le_refl k) (by omega))]
  · show L_X4_power_5 (lN a) (nI k) (fun w => some w) (f + 1) (lN (a ^ i)) (nI i) = L_X4_power_5 (lN a) (nI k) (fun w => some w) f (lN (a ^ i * a)) (nI (i + 1))
    rw [L_X4_power_5, if_neg (nI_ge hi (by omega)), lN_mul]
    simp only [lt, nI_1]
theorem k_pM {a : Nat} (ha : a < 2 ^ 31) {k : Nat} (hk : k ≤ 5) : F_X11_power (nI a) (nI k) = some (lN (a ^ k)) := by
  refine (F_X11_power.eq_1 (nI a) (nI k)).trans ?_
  refine (lt_eq _ _).trans ?_
  refine (lt_eq _ _).trans ?_
  refine loopN (L := fun f (q : Int64 × Int32) => L_X11_power_5 (nI a) (nI k) (fun w => some w) f q.1 q.2) (st := fun i => (lN (a ^ i), nI i)) k _ (fun f => ?_) (fun f i hi => ?_) 1000 0 (by omega) (by omega)
  · show L_X11_power_5 (nI a) (nI k) (fun w => some w) (f + 1) _ (nI k) = _
    rw [L_X11_power_5, if_pos (nI_le (Nat.le_refl k) (by omega))]
  · show L_X11_power_5 (nI a) (nI k) (fun w => some w) (f + 1) (lN (a ^ i)) (nI i) = L_X11_power_5 (nI a) (nI k) (fun w => some w) f (lN (a ^ i * a)) (nI (i + 1))
    rw [L_X11_power_5, if_neg (nI_ge hi (by omega)), nI_l ha, lN_mul]
    simp only [lt, nI_1]
theorem k_ways {X M : zSt} {n : Nat} {len : Nat → Nat} (g : gR X M n len) {k : Nat} (hk : k ≤ 5) : F_X4_ways X (nI k) = some (lN (sN len n ^ k)) := by
  have := k_T g
  unfold F_X4_ways
  rw [k_len g, Option.bind_some, nI_l (by omega), k_pX _ hk]
  rfl
theorem k_pw {a k : Nat} (ha : a ≤ 160) (hk : k ≤ 5) : a ^ k ≤ 104857600000 := by
  have h1 : a ^ k ≤ 160 ^ k := Nat.pow_le_pow_left ha k
  have h2 : 160 ^ k ≤ 160 ^ 5 := Nat.pow_le_pow_right (by omega) hk
  have h3 : 160 ^ 5 = 104857600000 := by decide
  omega
theorem k_hitX {X M : zSt} {n : Nat} {len : Nat → Nat} (g : gR X M n len) {i k : Nat} (hi : i < n) (hk : k ≤ 5) : F_X4_waysToHit X (nI i) (nI k) = some (lN (sN len n ^ k - (sN len n - len i) ^ k)) := by
  have := k_T g
  have g1 := g.1
  unfold F_X4_waysToHit
  rw [k_ways g hk, Option.bind_some, k_len g, Option.bind_some, ibd_nI (by omega) (by omega), nIN (by omega), (g.2.2.2 i hi).2.2.1, pk_sub (sN_ge n hi), nI_l (by omega), k_pX _ hk, Option.bind_some, lN_sub (Nat.pow_le_pow_left (by omega) k)]
theorem k_pos {X M : zSt} {n : Nat} {len : Nat → Nat} (g : gR X M n len) (hn : 0 < n) (k : Nat) : 0 < sN len n ^ k := by
  have h1 := (g.2.2.2 0 hn).1
  have h2 := sN_ge (g := len) n hn
  exact Nat.pow_pos (by omega)
theorem k_hit {X M : zSt} {n : Nat} {len : Nat → Nat} (g : gR X M n len) {i k : Nat} (hi : i < n) (hk1 : 1 ≤ k) (hk : k ≤ 5) {w : Int32} (hw : (0 : Int32) ≤ w ∧ w ≤ 1) : ∃ r, F_X10_hit X (nI i) (nI k) w = some r ∧ F_X11_hit M (nI i) (nI k) w = some r := by
  have b := k_T g
  have g1 := g.1
  have p := k_pos g (show 0 < n by omega) k
  have p2 := k_pw b hk
  have hr : (0 : Int32) ≤ nI i ∧ nI i ≤ nI n - 1 := by
    obtain ⟨m, rfl⟩ : ∃ m, n = m + 1 := ⟨n - 1, by omega⟩
    rw [nI_pred]
    exact ⟨nI_pos' (by omega), nI_le (by omega) (by omega)⟩
  have hr2 : (1 : Int32) ≤ nI k ∧ nI k ≤ 5 := rng' (a := 1) (b := 5) hk1 hk (by decide)
  unfold F_X10_hit F_X11_hit F_X4_piecesTold
  rw [Option.bind_some, g.2.1, g.2.2.1, p_out, p_in, if_pos hr, if_pos hr, Option.bind_some, Option.bind_some]
  simp only [jn]
  rw [if_true, if_neg i01, p_out, p_in, if_pos hr2, if_pos hr2, Option.bind_some, Option.bind_some, if_pos rfl, if_neg i01, p_out, p_in, if_pos hw, if_pos hw, Option.bind_some, Option.bind_some, if_pos rfl, if_neg i01, k_hitX g hi hk, k_ways g hk, k_whole g, Option.bind_some, Option.bind_some, Option.bind_some, k_pM (by omega) hk, Option.bind_some]
  simp only [lt]
  rw [Option.bind_some, ibd_nI (by omega) (by omega), nIN (by omega), (g.2.2.2 i hi).2.2.2, pk_sub (sN_ge n hi), k_pM (by omega) hk, Option.bind_some, lN_sub (Nat.pow_le_pow_left (by omega) k)]
  obtain ⟨r, r1, r2⟩ := fr_eq (a := sN len n ^ k - (sN len n - len i) ^ k) (b := sN len n ^ k) (by omega) p (by omega) w
  rw [r1, r2]
  exact ⟨r, rfl, rfl⟩
theorem a_hit : ag_hit zR := by
  intro SX SM a1 a2 a3 hR
  obtain ⟨n, len, g⟩ := hR.2.2.2.2.2.2.1
  have g : gR SX SM n len := g
  have g1 := g.1
  by_cases h1 : (0 : Int32) ≤ a1 ∧ a1 ≤ nI n - 1
  · by_cases h2 : (1 : Int32) ≤ a2 ∧ a2 ≤ 5
    · by_cases h3 : (0 : Int32) ≤ a3 ∧ a3 ≤ 1
      · obtain ⟨k, hk1, hk, rfl⟩ := rng 1 5 rfl rfl (by decide) (by decide) h2
        have n0 : 0 < n := by
          by_cases z : 0 < n
          · exact z
          · obtain rfl : n = 0 := by omega
            have := Int32.le_iff_toInt_le.mp (Int32.le_trans h1.1 h1.2)
            have e : (nI 0 - 1).toInt = -1 := by decide
            have e2 : (0 : Int32).toInt = 0 := by decide
            omega
        obtain ⟨m, rfl⟩ : ∃ m, n = m + 1 := ⟨n - 1, by omega⟩
        rw [nI_pred] at h1
        obtain ⟨i, -, hi, rfl⟩ := rng 0 m rfl rfl (by omega) (by omega) h1
        exact k_hit g (by omega) hk1 hk h3
      · unfold F_X10_hit F_X11_hit F_X4_piecesTold
        rw [Option.bind_some, g.2.1, g.2.2.1, p_out, p_in, if_pos h1, if_pos h1, Option.bind_some, Option.bind_some]
        simp only [jn]
        rw [if_true, if_neg i01, p_out, p_in, if_pos h2, if_pos h2, Option.bind_some, Option.bind_some, if_pos rfl, if_neg i01, p_out, p_in, if_neg h3, if_neg h3]
        exact ⟨_, rfl, rfl⟩
    · unfold F_X10_hit F_X11_hit F_X4_piecesTold
      rw [Option.bind_some, g.2.1, g.2.2.1, p_out, p_in, if_pos h1, if_pos h1, Option.bind_some, Option.bind_some]
      simp only [jn]
      rw [if_true, if_neg i01, p_out, p_in, if_neg h2, if_neg h2]
      exact ⟨_, rfl, rfl⟩
  · unfold F_X10_hit F_X11_hit F_X4_piecesTold
    rw [Option.bind_some, g.2.1, g.2.2.1, p_out, p_in, if_neg h1, if_neg h1]
    exact ⟨_, rfl, rfl⟩
