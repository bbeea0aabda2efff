-- differences of powers are never below nothing
def dQ : Nat → (Nat → Int) → Prop
  | 0, f => ∀ y, 0 ≤ f y
  | j + 1, f => (∀ y, 0 ≤ f y) ∧ ∀ l, dQ j (fun y => f (y + l) - f y)
theorem dQ_0 {f : Nat → Int} : ∀ {j : Nat}, dQ j f → ∀ y, 0 ≤ f y
  | 0, h => h
  | _ + 1, h => h.1
theorem dQ_m : ∀ {j : Nat} {f : Nat → Int}, dQ (j + 1) f → dQ j f
  | 0, _, h => h.1
  | _ + 1, _, h => ⟨h.1, fun l => dQ_m (h.2 l)⟩
theorem dQ_add : ∀ {j : Nat} {f g : Nat → Int}, dQ j f → dQ j g → dQ j (fun y => f y + g y)
  | 0, _, _, h1, h2 => fun y => Int.add_nonneg (h1 y) (h2 y)
  | j + 1, f, g, h1, h2 => ⟨fun y => Int.add_nonneg (h1.1 y) (h2.1 y), fun l => by
    have := dQ_add (h1.2 l) (h2.2 l)
    have e : (fun y => f (y + l) + g (y + l) - (f y + g y)) = (fun y => f (y + l) - f y + (g (y + l) - g y)) := funext fun y => by omega
    show dQ j (fun y => f (y + l) + g (y + l) - (f y + g y))
    rw [e]
    exact this⟩
theorem dQ_sh (l : Nat) : ∀ {j : Nat} {f : Nat → Int}, dQ j f → dQ j (fun y => f (y + l))
  | 0, _, h => fun y => h (y + l)
  | j + 1, f, h => ⟨fun y => h.1 (y + l), fun m => by
    have := dQ_sh l (h.2 m)
    show dQ j (fun y => f (y + m + l) - f (y + l))
    have e : (fun y => f (y + m + l) - f (y + l)) = (fun y => f (y + l + m) - f (y + l)) := funext fun y => by rw [Nat.add_right_comm]
    rw [e]
    exact this⟩
theorem dQ_sc (c : Nat) : ∀ {j : Nat} {f : Nat → Int}, dQ j f → dQ j (fun y => (c : Int) * f y)
  | 0, _, h => fun y => Int.mul_nonneg (Int.natCast_nonneg c) (h y)
  | j + 1, f, h => ⟨fun y => Int.mul_nonneg (Int.natCast_nonneg c) (h.1 y), fun m => by
    have := dQ_sc c (h.2 m)
    have e : (fun y => (c : Int) * f (y + m) - (c : Int) * f y) = (fun y => (c : Int) * (f (y + m) - f y)) := funext fun y => (Int.mul_sub _ _ _).symm
    show dQ j (fun y => (c : Int) * f (y + m) - (c : Int) * f y)
    rw [e]
    exact this⟩
theorem dQ_y : ∀ {j : Nat} {f : Nat → Int}, dQ j f → dQ j (fun y => (y : Int) * f y)
  | 0, _, h => fun y => Int.mul_nonneg (Int.natCast_nonneg y) (h y)
  | j + 1, f, h => ⟨fun y => Int.mul_nonneg (Int.natCast_nonneg y) (h.1 y), fun m => by
    have h1 := dQ_y (h.2 m)
    have h2 := dQ_sc m (dQ_sh m (dQ_m h))
    have e : (fun y : Nat => ((y + m : Nat) : Int) * f (y + m) - (y : Int) * f y) = (fun y : Nat => (y : Int) * (f (y + m) - f y) + (m : Int) * f (y + m)) := funext fun y => by
      rw [Int.natCast_add, Int.add_mul, Int.mul_sub]
      omega
    show dQ j (fun y : Nat => ((y + m : Nat) : Int) * f (y + m) - (y : Int) * f y)
    rw [e]
    exact dQ_add h1 h2⟩
theorem dQ_c (c : Int) (hc : 0 ≤ c) : ∀ j, dQ j (fun _ => c)
  | 0 => fun _ => hc
  | j + 1 => ⟨fun _ => hc, fun _ => by
    show dQ j (fun _ => c - c)
    rw [Int.sub_self]
    exact dQ_c 0 (by omega) j⟩
theorem dQ_p (j : Nat) : ∀ k, dQ j (fun y => (y : Int) ^ k)
  | 0 => dQ_c 1 (by omega) j
  | k + 1 => by
    have := dQ_y (dQ_p j k)
    have e : (fun y : Nat => (y : Int) ^ (k + 1)) = (fun y : Nat => (y : Int) * (y : Int) ^ k) := funext fun y => by rw [Int.pow_succ, Int.mul_comm]
    rw [e]
    exact this
-- the sum over the groups of pieces
def ml (len : Nat → Nat) (m n : Nat) : Nat := sN (fun i => bt m i * len i) n
def sI' (m : Nat) : Int := if on m % 2 = 0 then 1 else -1
def sZ (g : Nat → Int) : Nat → Int
  | 0 => 0
  | n + 1 => sZ g n + g n
def tm (len : Nat → Nat) (n k x m : Nat) : Int := sI' m * (((x - ml len m n : Nat) : Int) ^ k)
theorem sZ_cong {g h : Nat → Int} : ∀ m, (∀ i, i < m → g i = h i) → sZ g m = sZ h m
  | 0, _ => rfl
  | m + 1, e => by
    unfold sZ
    rw [sZ_cong m (fun i hi => e i (by omega)), e m (by omega)]
theorem sZ_app (g : Nat → Int) (a : Nat) : ∀ b, sZ g (a + b) = sZ g a + sZ (fun i => g (a + i)) b
  | 0 => by simp [sZ]
  | b + 1 => by
    show sZ g (a + b) + g (a + b) = sZ g a + (sZ (fun i => g (a + i)) b + g (a + b))
    rw [sZ_app g a b]
    omega
theorem sZ_neg (g : Nat → Int) : ∀ b, sZ (fun i => - g i) b = - sZ g b
  | 0 => rfl
  | b + 1 => by
    show sZ (fun i => - g i) b + - g b = - (sZ g b + g b)
    rw [sZ_neg g b]
    omega
theorem y_top : ∀ (j : Fin 8) (m : Fin 256), (m : Nat) < 2 ^ (j : Nat) → on (2 ^ (j : Nat) + m) = on m + 1 ∧ (∀ i : Fin 8, bt (2 ^ (j : Nat) + m) i = if i = j then 1 else bt m i) ∧ bt m j = 0 := by decide +kernel
theorem ml_top {len : Nat → Nat} {j m : Nat} (hj : j < 8) (hm : m < 2 ^ j) : sI' (2 ^ j + m) = - sI' m ∧ ml len (2 ^ j + m) (j + 1) = ml len m j + len j ∧ ml len m (j + 1) = ml len m j := by
  have pw : 2 ^ j ≤ 2 ^ 8 := Nat.pow_le_pow_right (by omega) (by omega)
  obtain ⟨t1, t2, t3⟩ := y_top ⟨j, hj⟩ ⟨m, by omega⟩ hm
  dsimp only at t1 t2 t3
  refine ⟨?_, ?_, ?_⟩
  · unfold sI'
    rw [t1]
    by_cases q : on m % 2 = 0
    · rw [if_pos q, if_neg (by omega)]
    · rw [if_neg q, if_pos (by omega)]
      rfl
  · unfold ml
    show sN (fun i => bt (2 ^ j + m) i * len i) j + bt (2 ^ j + m) j * len j = _
    have e := t2 ⟨j, hj⟩
    rw [if_pos rfl] at e
    dsimp only at e
    rw [e, Nat.one_mul]
    congr 1
    refine sN_cong j (fun i hi => ?_)
    have e := t2 ⟨i, by omega⟩
    rw [if_neg (fun q => by have := congrArg Fin.val q; dsimp only at this; omega)] at e
    dsimp only at e ⊢
    rw [e]
  · unfold ml
    show sN (fun i => bt m i * len i) j + bt m j * len j = _
    rw [t3, Nat.zero_mul]
    rfl
theorem ml_le {len : Nat → Nat} {m : Nat} : ∀ n, ml len m n ≤ sN len n
  | 0 => Nat.le_refl 0
  | n + 1 => by
    have := ml_le (len := len) (m := m) n
    have := Nat.mul_le_mul (bt_le m n) (Nat.le_refl (len n))
    show ml len m n + bt m n * len n ≤ sN len n + len n
    omega
def dS (len : Nat → Nat) (j k x : Nat) : Int := sZ (tm len j k x) (2 ^ j)
theorem dS_s {len : Nat → Nat} {j k x : Nat} (hj : j < 8) : dS len (j + 1) k x = dS len j k x - dS len j k (x - len j) := by
  unfold dS
  rw [show 2 ^ (j + 1) = 2 ^ j + 2 ^ j by rw [Nat.pow_succ]; omega, sZ_app]
  have e1 : sZ (tm len (j + 1) k x) (2 ^ j) = sZ (tm len j k x) (2 ^ j) := sZ_cong _ (fun m hm => by
    unfold tm
    rw [(ml_top hj hm).2.2])
  have e2 : sZ (fun i => tm len (j + 1) k x (2 ^ j + i)) (2 ^ j) = sZ (fun i => - tm len j k (x - len j) i) (2 ^ j) := sZ_cong _ (fun m hm => by
    unfold tm
    rw [(ml_top (len := len) hj hm).1, (ml_top (len := len) hj hm).2.1, Int.neg_mul, show x - (ml len m j + len j) = x - len j - ml len m j by omega])
  rw [e1, e2, sZ_neg]
  rfl
theorem dS_ok (len : Nat → Nat) (k : Nat) : ∀ j i, j ≤ 8 → dQ i (fun y => dS len j k (y + sN len j))
  | 0, i, _ => by
    have := dQ_p i k
    have e : (fun y : Nat => dS len 0 k (y + sN len 0)) = (fun y : Nat => (y : Int) ^ k) := funext fun y => by
      show 0 + sI' 0 * (((y + 0 - 0 : Nat) : Int) ^ k) = _
      rw [show sI' 0 = 1 by decide]
      simp
    rw [e]
    exact this
  | j + 1, i, hj => by
    have h := (dS_ok len k j (i + 1) (by omega)).2 (len j)
    have e : (fun y : Nat => dS len (j + 1) k (y + sN len (j + 1))) = (fun y : Nat => dS len j k (y + len j + sN len j) - dS len j k (y + sN len j)) := funext fun y => by
      rw [dS_s (by omega)]
      show dS len j k (y + (sN len j + len j)) - dS len j k (y + (sN len j + len j) - len j) = _
      rw [show y + (sN len j + len j) = y + len j + sN len j by omega, show y + len j + sN len j - len j = y + sN len j by omega]
    rw [e]
    exact h
theorem dS_pos (len : Nat → Nat) (k n : Nat) (hn : n ≤ 8) : 0 ≤ dS len n k (sN len n) := by
  have := dQ_0 (dS_ok len k n 0 hn) 0
  rw [Nat.zero_add] at this
  exact this
