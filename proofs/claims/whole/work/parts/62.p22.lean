-- the ones of a long word
theorem tb_ma (q r j : Nat) (hr : r < 256) : (256 * q + r).testBit j = if j < 8 then r.testBit j else q.testBit (j - 8) := Nat.testBit_two_pow_mul_add (i := 8) q hr j
theorem and_ma (q m : Nat) {r s : Nat} (hr : r < 256) (hs : s < 256) : (256 * q + r) &&& (256 * m + s) = 256 * (q &&& m) + (r &&& s) := by
  have hl : r &&& s < 256 := Nat.lt_of_le_of_lt Nat.and_le_left hr
  apply Nat.eq_of_testBit_eq
  intro j
  rw [Nat.testBit_and, tb_ma _ _ _ hr, tb_ma _ _ _ hs, tb_ma _ _ _ hl]
  by_cases h : j < 8
  · rw [if_pos h, if_pos h, if_pos h, Nat.testBit_and]
  · rw [if_neg h, if_neg h, if_neg h, Nat.testBit_and]
def mS (b : Nat) : Nat → Nat
  | 0 => 0
  | k + 1 => 256 * mS b k + b
def A1 (k w : Nat) : Nat := w - ((w / 2) &&& mS 0x55 k)
def A2 (k w : Nat) : Nat := (w &&& mS 0x33 k) + ((w / 4) &&& mS 0x33 k)
def A3 (k w : Nat) : Nat := (w + w / 16) &&& mS 0x0f k
def c1 (r : Nat) : Nat := r - ((r / 2) &&& 0x55)
def c2 (r : Nat) : Nat := (r &&& 0x33) + ((r / 4) &&& 0x33)
theorem y_1 : ∀ (r : Fin 256) (c : Fin 2), (128 * (c : Nat) + r / 2) &&& 0x55 = ((r : Nat) / 2) &&& 0x55 ∧ ((r : Nat) / 2) &&& 0x55 ≤ r := by decide +kernel
theorem y_2 : ∀ (r : Fin 256) (c : Fin 4), (64 * (c : Nat) + r / 4) &&& 0x33 = ((r : Nat) / 4) &&& 0x33 := by decide +kernel
theorem y_3 : ∀ (r : Fin 256), c2 (c1 r) ≤ 68 ∧ c2 (c1 r) % 16 ≤ 4 ∧ ∀ c : Fin 5, (16 * (c : Nat) + (c2 (c1 r) + c2 (c1 r) / 16)) &&& 0x0f = on r := by decide +kernel
theorem c1_lt {r : Nat} (h : r < 256) : c1 r < 256 := by unfold c1; omega
theorem A1_s {k q r : Nat} (hr : r < 256) : A1 (k + 1) (256 * q + r) = 256 * A1 k q + c1 r := by
  unfold A1 c1
  have e : (256 * q + r) / 2 = 256 * (q / 2) + (128 * (q % 2) + r / 2) := by omega
  have y := y_1 ⟨r, hr⟩ ⟨q % 2, by omega⟩
  dsimp only at y
  have l : q / 2 &&& mS 0x55 k ≤ q / 2 := Nat.and_le_left
  rw [e]
  show 256 * q + r - ((256 * (q / 2) + (128 * (q % 2) + r / 2)) &&& (256 * mS 0x55 k + 0x55)) = _
  rw [and_ma _ _ (by omega) (by omega), y.1]
  have := y.2
  omega
theorem A2_s {k q r : Nat} (hr : r < 256) : A2 (k + 1) (256 * q + r) = 256 * A2 k q + c2 r := by
  unfold A2 c2
  have e : (256 * q + r) / 4 = 256 * (q / 4) + (64 * (q % 4) + r / 4) := by omega
  have y := y_2 ⟨r, hr⟩ ⟨q % 4, by omega⟩
  dsimp only at y
  rw [e]
  show ((256 * q + r) &&& (256 * mS 0x33 k + 0x33)) + ((256 * (q / 4) + (64 * (q % 4) + r / 4)) &&& (256 * mS 0x33 k + 0x33)) = _
  rw [and_ma _ _ hr (by omega), and_ma _ _ (by omega) (by omega), y]
  omega
theorem A_z (k : Nat) : A1 k 0 = 0 ∧ A2 k 0 = 0 ∧ A3 k 0 = 0 := by
  unfold A1 A2 A3
  simp
theorem A_low (k q : Nat) : A2 k (A1 k q) % 16 ≤ 4 ∨ k = 0 := by
  cases k with
  | zero => exact Or.inr rfl
  | succ k =>
    left
    have hr : q % 256 < 256 := Nat.mod_lt _ (by omega)
    have e : q = 256 * (q / 256) + q % 256 := by omega
    rw [e, A1_s hr, A2_s (c1_lt hr)]
    have := (y_3 ⟨q % 256, hr⟩).2.1
    dsimp only at this
    omega
theorem A_s {k q r : Nat} (hr : r < 256) (hq : k = 0 → q = 0) : A3 (k + 1) (A2 (k + 1) (A1 (k + 1) (256 * q + r))) = 256 * A3 k (A2 k (A1 k q)) + on r := by
  have low : A2 k (A1 k q) % 16 ≤ 4 := by
    rcases A_low k q with h | h
    · exact h
    · rw [hq h, (A_z k).1, (A_z k).2.1]; omega
  obtain ⟨y1, y2, y3⟩ := y_3 ⟨r, hr⟩
  dsimp only at y1 y2 y3
  have y4 := y3 ⟨A2 k (A1 k q) % 16, by omega⟩
  dsimp only at y4
  rw [A1_s hr, A2_s (c1_lt hr)]
  unfold A3
  have e : 256 * A2 k (A1 k q) + c2 (c1 r) + (256 * A2 k (A1 k q) + c2 (c1 r)) / 16 = 256 * (A2 k (A1 k q) + A2 k (A1 k q) / 16) + (16 * (A2 k (A1 k q) % 16) + (c2 (c1 r) + c2 (c1 r) / 16)) := by omega
  rw [e]
  show (256 * (A2 k (A1 k q) + A2 k (A1 k q) / 16) + (16 * (A2 k (A1 k q) % 16) + (c2 (c1 r) + c2 (c1 r) / 16))) &&& (256 * mS 0x0f k + 0x0f) = _
  rw [and_ma _ _ (by omega) (by omega), y4]
theorem sN_app (g : Nat → Nat) (a : Nat) : ∀ b, sN g (a + b) = sN g a + sN (fun i => g (a + i)) b
  | 0 => by simp [sN]
  | b + 1 => by
    show sN g (a + b) + g (a + b) = sN g a + (sN (fun i => g (a + i)) b + g (a + b))
    rw [sN_app g a b]
    omega
theorem bt_ma {q r : Nat} (hr : r < 256) (n : Nat) : sN (bt (256 * q + r)) (8 + n) = on r + sN (bt q) n := by
  rw [sN_app]
  congr 1
  · refine sN_cong 8 (fun i hi => ?_)
    unfold bt
    rw [tb_ma _ _ _ hr, if_pos (show i < 8 from hi)]
  · refine sN_cong n (fun i hi => ?_)
    show bt (256 * q + r) (8 + i) = bt q i
    unfold bt
    rw [tb_ma _ _ _ hr, if_neg (show ¬ 8 + i < 8 by omega), show 8 + i - 8 = i by omega]
/-- the counts of the eight bytes -/
theorem A_all {w : Nat} (hw : w < 2 ^ 64) : ∃ a b c d e f g h : Nat, a ≤ 8 ∧ b ≤ 8 ∧ c ≤ 8 ∧ d ≤ 8 ∧ e ≤ 8 ∧ f ≤ 8 ∧ g ≤ 8 ∧ h ≤ 8 ∧ A3 8 (A2 8 (A1 8 w)) = a + 256 * (b + 256 * (c + 256 * (d + 256 * (e + 256 * (f + 256 * (g + 256 * h)))))) ∧ sN (bt w) 64 = a + (b + (c + (d + (e + (f + (g + h)))))) := by
  have st : ∀ k v n, (k = 0 → v / 256 = 0) → A3 (k + 1) (A2 (k + 1) (A1 (k + 1) v)) = on (v % 256) + 256 * A3 k (A2 k (A1 k (v / 256))) ∧ sN (bt v) (8 + n) = on (v % 256) + sN (bt (v / 256)) n := fun k v n h => by
    have hr : v % 256 < 256 := Nat.mod_lt _ (by omega)
    have e : 256 * (v / 256) + v % 256 = v := by omega
    have h1 := A_s hr h
    have h2 := bt_ma (q := v / 256) hr n
    rw [e] at h1 h2
    exact ⟨by omega, h2⟩
  obtain ⟨p1, q1⟩ := st 7 w 56 (by omega)
  obtain ⟨p2, q2⟩ := st 6 (w / 256) 48 (by omega)
  obtain ⟨p3, q3⟩ := st 5 (w / 256 / 256) 40 (by omega)
  obtain ⟨p4, q4⟩ := st 4 (w / 256 / 256 / 256) 32 (by omega)
  obtain ⟨p5, q5⟩ := st 3 (w / 256 / 256 / 256 / 256) 24 (by omega)
  obtain ⟨p6, q6⟩ := st 2 (w / 256 / 256 / 256 / 256 / 256) 16 (by omega)
  obtain ⟨p7, q7⟩ := st 1 (w / 256 / 256 / 256 / 256 / 256 / 256) 8 (by omega)
  obtain ⟨p8, q8⟩ := st 0 (w / 256 / 256 / 256 / 256 / 256 / 256 / 256) 0 (by omega)
  refine ⟨on (w % 256), on (w / 256 % 256), on (w / 256 / 256 % 256), on (w / 256 / 256 / 256 % 256), on (w / 256 / 256 / 256 / 256 % 256), on (w / 256 / 256 / 256 / 256 / 256 % 256), on (w / 256 / 256 / 256 / 256 / 256 / 256 % 256), on (w / 256 / 256 / 256 / 256 / 256 / 256 / 256 % 256), on_le _, on_le _, on_le _, on_le _, on_le _, on_le _, on_le _, on_le _, ?_, ?_⟩
  · rw [p1, p2, p3, p4, p5, p6, p7, p8]
    have z : w / 256 / 256 / 256 / 256 / 256 / 256 / 256 / 256 = 0 := by omega
    rw [z, (A_z 0).1, (A_z 0).2.1, (A_z 0).2.2]
    simp only [Nat.mul_zero, Nat.add_zero]
  · simp only [Nat.reduceAdd] at q1 q2 q3 q4 q5 q6 q7 q8
    rw [q1, q2, q3, q4, q5, q6, q7, q8]
    rfl
