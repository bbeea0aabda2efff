-- choosing
theorem lN_gt0 {y : Nat} (h : 0 < y) (h2 : y < 2 ^ 63) : ¬ lg_cmp (lN y) 0 ≤ 0 := fun q => (lg_le _ _).mp q ((pk_lLT (a := 0) (by omega) (by omega)).mpr h)
theorem lN_le0 {y : Nat} (h2 : y < 2 ^ 63) : lg_cmp (lN y) 0 ≤ 0 ↔ y = 0 := ⟨fun q => by
  by_cases h : 0 < y
  · exact absurd q (lN_gt0 h h2)
  · omega, fun q => by subst q; decide⟩
def ch : Nat → Nat → Nat
  | _, 0 => 1
  | 0, _ + 1 => 0
  | n + 1, k + 1 => ch n k + ch n (k + 1)
theorem ch_0 (n : Nat) : ch n 0 = 1 := by cases n <;> rfl
theorem ch_s : ∀ n k, (n + 1) * ch n k = ch (n + 1) (k + 1) * (k + 1)
  | 0, 0 => rfl
  | 0, k + 1 => by simp [ch]
  | n + 1, 0 => by
    have h := ch_s n 0
    rw [ch_0] at h ⊢
    show _ = (ch (n + 1) 0 + ch (n + 1) (0 + 1)) * 1
    rw [ch_0]
    omega
  | n + 1, k + 1 => by
    have h1 := ch_s n k
    have h2 := ch_s n (k + 1)
    show (n + 1 + 1) * ch (n + 1) (k + 1) = (ch (n + 1) (k + 1) + ch (n + 1) (k + 1 + 1)) * (k + 1 + 1)
    have e : ch (n + 1) (k + 1) = ch n k + ch n (k + 1) := rfl
    rw [Nat.add_mul (n + 1) 1, Nat.one_mul, Nat.add_mul (ch (n + 1) (k + 1)), ← h2, Nat.mul_add _ (k + 1) 1, ← h1, Nat.mul_one]
    rw [show (n + 1) * ch (n + 1) (k + 1) = (n + 1) * ch n k + (n + 1) * ch n (k + 1) by rw [e, Nat.mul_add]]
    omega
theorem ch_r (n k : Nat) (h : k ≤ n) : ch n (k + 1) * (k + 1) = ch n k * (n - k) := by
  have h1 := ch_s n k
  have e : ch (n + 1) (k + 1) = ch n k + ch n (k + 1) := rfl
  rw [e, Nat.add_mul (ch n k)] at h1
  have h2 : (n + 1) * ch n k = ch n k * (n - k) + ch n k * (k + 1) := by rw [← Nat.mul_add, Nat.mul_comm]; congr 1; omega
  omega
theorem ch_pos : ∀ n k, k ≤ n → 0 < ch n k
  | n, 0, _ => by rw [ch_0]; omega
  | 0, k + 1, h => by omega
  | n + 1, k + 1, h => by
    have := ch_pos n k (by omega)
    show 0 < ch n k + ch n (k + 1)
    omega
theorem ch_none : ∀ n k, n < k → ch n k = 0
  | _, 0, h => by omega
  | 0, k + 1, h => rfl
  | n + 1, k + 1, h => by
    show ch n k + ch n (k + 1) = 0
    rw [ch_none n k (by omega), ch_none n (k + 1) (by omega)]
theorem ch_st (n k : Nat) : ch n (k + 1) ≤ ch n k * n := by
  by_cases h : k ≤ n
  · have h1 := ch_r n k h
    have h2 : ch n (k + 1) * 1 ≤ ch n (k + 1) * (k + 1) := Nat.mul_le_mul_left _ (by omega)
    have h3 : ch n k * (n - k) ≤ ch n k * n := Nat.mul_le_mul_left _ (by omega)
    omega
  · rw [ch_none n (k + 1) (by omega)]; omega
theorem ch_pw (n : Nat) : ∀ k, ch n k ≤ n ^ k
  | 0 => by rw [ch_0]; exact Nat.le_refl 1
  | k + 1 => Nat.le_trans (ch_st n k) (by rw [Nat.pow_succ]; exact Nat.mul_le_mul_right _ (ch_pw n k))
theorem ch_sm {n : Nat} (hn : n ≤ 324) (k : Nat) : ch n (k + 1) * (k + 1) ≤ ch n k * 324 := by
  by_cases h : k ≤ n
  · rw [ch_r n k h]; exact Nat.mul_le_mul_left _ (by omega)
  · rw [ch_none n (k + 1) (by omega)]; omega
theorem ch_b {n : Nat} (hn : n ≤ 324) {k : Nat} (hk : k ≤ 8) : ch n k ≤ 3100000000000000 := by
  have h0 := ch_0 n
  have h1 := ch_sm hn 0
  have h2 := ch_sm hn 1
  have h3 := ch_sm hn 2
  have h4 := ch_sm hn 3
  have h5 := ch_sm hn 4
  have h6 := ch_sm hn 5
  have h7 := ch_sm hn 6
  have h8 := ch_sm hn 7
  simp only [Nat.reduceAdd] at h1 h2 h3 h4 h5 h6 h7 h8
  have cases : k = 0 ∨ k = 1 ∨ k = 2 ∨ k = 3 ∨ k = 4 ∨ k = 5 ∨ k = 6 ∨ k = 7 ∨ k = 8 := by omega
  rcases cases with rfl | rfl | rfl | rfl | rfl | rfl | rfl | rfl | rfl <;> omega
theorem ch_x {n k : Nat} (hn : n ≤ 324) (hk : k ≤ 8) : F_X1_choose (nI n) (nI k) = some (lN (ch n k)) := by
  unfold F_X1_choose
  by_cases h : k ≤ n
  · rw [if_pos (nI_le h (by omega))]
    simp only [lt]
    have z := loopN (L := fun f (q : Int64 × Int32) => L_X1_choose_12 (nI n) (nI k) (fun w => some w) f q.1 q.2) (st := fun i => (lN (ch (n - k + i) i), nI (i + 1))) k (some (lN (ch n k))) ?_ ?_ 1000 0 (by omega) (by omega)
    · have z : L_X1_choose_12 (nI n) (nI k) (fun w => some w) 1000 (lN (ch (n - k + 0) 0)) 1 = some (lN (ch n k)) := z
      rw [ch_0] at z
      exact z
    · intro f
      show L_X1_choose_12 (nI n) (nI k) (fun w => some w) (f + 1) (lN (ch (n - k + k) k)) (nI (k + 1)) = _
      rw [L_X1_choose_12, if_pos (nI_lt (by omega) (by omega)), show n - k + k = n by omega]
    · intro f i hi
      show L_X1_choose_12 (nI n) (nI k) (fun w => some w) (f + 1) (lN (ch (n - k + i) i)) (nI (i + 1)) = L_X1_choose_12 (nI n) (nI k) (fun w => some w) f (lN (ch (n - k + (i + 1)) (i + 1))) (nI (i + 1 + 1))
      have b := @ch_b (n - k + i) (by omega) i (by omega)
      have e := ch_s (n - k + i) i
      rw [L_X1_choose_12, if_neg (nI_nlt (by omega) (by omega)), nI_l (by omega), pk_sub h, nI_add, nI_l (by omega)]
      unfold nzl
      rw [if_neg (lN_ne0 (by omega) (by omega))]
      simp only [lt, nI_1]
      have b2 : ch (n - k + i) i * (n - k + (i + 1)) ≤ 3100000000000000 * 324 := Nat.mul_le_mul b (by omega)
      rw [lN_mul, pk_lDiv (by omega) (by omega) (by omega), show n - k + (i + 1) = n - k + i + 1 by omega, Nat.mul_comm, e, Nat.mul_div_cancel _ (by omega)]
  · rw [if_neg (nI_ge (by omega) (by omega)), ch_none n k (by omega)]
    rfl
theorem ch_m {n k : Nat} (hn : n ≤ 324) (hk : k ≤ 8) : F_X11_choose (nI n) (nI k) = some (lN (ch n k)) := by
  unfold F_X11_choose
  rw [p_in, Option.bind_some]
  simp only [jn, lt]
  by_cases h : k ≤ n
  · rw [if_pos (show (0 : Int32) ≤ nI k ∧ nI k ≤ nI n from ⟨nI_pos' (by omega), nI_le h (by omega)⟩), if_neg i01]
    have z := loopN (L := fun f (q : Int64 × Int32) => L_X11_choose_18 (nI n) (nI k) (fun w => some w) f q.1 q.2) (st := fun i => (lN (ch n i), nI i)) k (some (lN (ch n k))) ?_ ?_ 1000 0 (by omega) (by omega)
    · have z : L_X11_choose_18 (nI n) (nI k) (fun w => some w) 1000 (lN (ch n 0)) 0 = some (lN (ch n k)) := z
      rw [ch_0] at z
      exact z
    · intro f
      show L_X11_choose_18 (nI n) (nI k) (fun w => some w) (f + 1) (lN (ch n k)) (nI k) = _
      rw [L_X11_choose_18, if_pos (nI_le (Nat.le_refl k) (by omega))]
    · intro f i hi
      show L_X11_choose_18 (nI n) (nI k) (fun w => some w) (f + 1) (lN (ch n i)) (nI i) = L_X11_choose_18 (nI n) (nI k) (fun w => some w) f (lN (ch n (i + 1))) (nI (i + 1))
      have b := @ch_b n (by omega) i (by omega)
      have p := ch_pos n i (by omega)
      have e := ch_r n i (by omega)
      rw [L_X11_choose_18, if_neg (nI_ge hi (by omega)), if_neg (lN_gt0 p (by omega)), nI_l (by omega), pk_sub (by omega), nI_l (by omega), lN_1]
      unfold nzl
      rw [if_neg (lN_ne0 (by omega) (by omega))]
      simp only [lt, nI_1]
      have b2 : ch n i * (n - i) ≤ 3100000000000000 * 324 := Nat.mul_le_mul b (by omega)
      rw [lN_mul, pk_lDiv (by omega) (by omega) (by omega), ← e, Nat.mul_div_cancel _ (by omega)]
  · rw [if_neg (show ¬ ((0 : Int32) ≤ nI k ∧ nI k ≤ nI n) from fun q => nI_ge (by omega) (by omega) q.2), if_pos rfl, L_X11_choose_18, ch_none n k (by omega), if_neg (show ¬ nI k ≤ 0 from nI_nle (by omega) (by omega)), if_pos (by decide)]
    rfl
