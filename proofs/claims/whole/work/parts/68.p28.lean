-- the buses of a line in their order
def gA (W : Nat) : Nat → Nat → Nat
  | 0 => fun _ => 0
  | m + 1 => fun i => if bt W m = 1 ∧ i = sN (bt W) m then m else gA W m i
theorem gA_s (W m i : Nat) : gA W (m + 1) i = if bt W m = 1 ∧ i = sN (bt W) m then m else gA W m i := rfl
theorem sN_s (g : Nat → Nat) (m : Nat) : sN g (m + 1) = sN g m + g m := rfl
theorem gA_lt (W : Nat) : ∀ m i, i < sN (bt W) m → gA W m i < m := by
  intro m
  induction m with
  | zero => intro i h; exact absurd h (Nat.not_lt_zero _)
  | succ m ih =>
    intro i h
    rw [sN_s] at h
    rw [gA_s]
    have hb := bt_le W m
    by_cases q : bt W m = 1 ∧ i = sN (bt W) m
    · rw [if_pos q]; omega
    · rw [if_neg q]
      have := ih i (by omega)
      omega
theorem gA_inc (W : Nat) : ∀ m i, i + 1 < sN (bt W) m → gA W m i < gA W m (i + 1) := by
  intro m
  induction m with
  | zero => intro i h; exact absurd h (Nat.not_lt_zero _)
  | succ m ih =>
    intro i h
    rw [sN_s] at h
    have hb := bt_le W m
    rw [gA_s, gA_s, if_neg (show ¬ (bt W m = 1 ∧ i = sN (bt W) m) by omega)]
    by_cases q : bt W m = 1 ∧ i + 1 = sN (bt W) m
    · rw [if_pos q]; exact gA_lt W m i (by omega)
    · rw [if_neg q]; exact ih i (by omega)
theorem gA_st (W m i : Nat) (h : i < sN (bt W) m) : ∀ k, gA W (m + k) i = gA W m i := by
  intro k
  induction k with
  | zero => rfl
  | succ k ih =>
    have := sN_mon (g := bt W) (i := m) (m + k) (by omega)
    rw [← Nat.add_assoc, gA_s, if_neg (show ¬ (bt W (m + k) = 1 ∧ i = sN (bt W) (m + k)) by omega), ih]
theorem gA_le (W i : Nat) : ∀ m, gA W (m + 1) i ≤ m := by
  intro m
  induction m with
  | zero =>
    rw [gA_s]
    split
    · omega
    · exact Nat.le_refl 0
  | succ m ih =>
    rw [gA_s]
    split <;> omega
theorem h_tbX {W n : Nat} (hW : W < 2 ^ 60) (hn : sN (bt W) 60 = n) (h12 : n ≤ 12) : ∀ (j m : Nat) (S : zSt) (f : Nat), m + j = 60 → j < f → zI S 2 = nI (sN (bt W) m) → (∀ i, i < sN (bt W) m → zA S 12 i = nI (gA W m i)) → ∃ S1, L_X3_takeBuses_7 (lN W) (fun S => some S) f S (nI m) = some S1 ∧ eS [2] [12] [] S S1 ∧ zI S1 2 = nI n ∧ ∀ i, i < n → zA S1 12 i = nI (gA W 60 i) := by
  intro j
  induction j with
  | zero =>
    intro m S f h1 h2 h3 h4
    obtain ⟨f, rfl⟩ : ∃ a, f = a + 1 := ⟨f - 1, by omega⟩
    have e : m = 60 := by omega
    subst e
    rw [L_X3_takeBuses_7, if_pos (by decide)]
    exact ⟨S, rfl, eS_r _ _ _ S, by rw [h3, hn], fun i hi => h4 i (by omega)⟩
  | succ j ih =>
    intro m S f h1 h2 h3 h4
    obtain ⟨f, rfl⟩ : ∃ a, f = a + 1 := ⟨f - 1, by omega⟩
    have hmon := sN_mon (g := bt W) (i := m) 60 (by omega)
    rw [L_X3_takeBuses_7, if_neg (show ¬ (60 : Int32) ≤ nI m from nI_ge (b := 60) (by omega) (by decide)), h3]
    by_cases h : sN (bt W) m = 12
    · rw [h, if_pos (by decide)]
      refine ⟨S, rfl, eS_r _ _ _ S, by rw [h3, h, show n = 12 by omega], fun i hi => ?_⟩
      rw [h4 i (by omega), ← gA_st W m i (by omega) (60 - m), show m + (60 - m) = 60 by omega]
    · rw [if_neg (show ¬ (12 : Int32) ≤ nI _ from nI_ge (b := 12) (by omega) (by decide)), e_in hW (by omega), Option.bind_some]
      rcases bt_01 W m with e | e
      · rw [e, if_pos nI_0]
        simp only [lt, nI_1]
        refine ih (m + 1) S f (by omega) (by omega) (by rw [h3, sN_s, e, Nat.add_zero]) (fun i hi => ?_)
        rw [gA_s, if_neg (by omega)]
        rw [sN_s, e] at hi
        exact h4 i (by omega)
      · rw [e, if_neg (by decide), ibd_nI (show sN (bt W) m < 12 by omega) (by decide), nIN (by omega)]
        simp only [lt, nI_1, zI_sA, h3]
        obtain ⟨S1, q1, q2, q3, q4⟩ := ih (m + 1) (sI (sA S 12 (upd (zA S 12) (sN (bt W) m) (nI m))) 2 (nI (sN (bt W) m + 1))) f (by omega) (by omega) (by rw [zI_sI, if_pos rfl, sN_s, e]) (fun i hi => by
          rw [sN_s, e] at hi
          rw [zA_sI, zA_sA, if_pos rfl, gA_s]
          by_cases z : i = sN (bt W) m
          · rw [if_pos ⟨e, z⟩, z, upd_s]
          · rw [if_neg (fun y => z y.2), upd_n _ _ z]
            exact h4 i (by omega))
        exact ⟨S1, q1, eS_t (eS_I (eS_A (eS_r _ _ _ S) 12 _ (by decide)) 2 _ (by decide)) q2, q3, q4⟩
theorem h_tbM {X M : zSt} {l W : Nat} (g : gB X M l W) (a2 a3 : Int32) : ∀ (j m : Nat) (S : zSt) (f : Nat), m + j = 60 → j < f → zA S 3 = zA M 3 → (∀ i, i < sN (bt W) m → zA S 4 i = nI (gA W m i)) → ∃ S1, (∀ k, L_X11_heldNow_6 (nI l) a2 a3 k f S (nI (sN (bt W) m)) (nI m) = k S1 (nI (sN (bt W) 60))) ∧ eS [] [4] [] S S1 ∧ ∀ i, i < sN (bt W) 60 → zA S1 4 i = nI (gA W 60 i) := by
  intro j
  induction j with
  | zero =>
    intro m S f h1 h2 h3 h4
    obtain ⟨f, rfl⟩ : ∃ a, f = a + 1 := ⟨f - 1, by omega⟩
    have e : m = 60 := by omega
    subst e
    exact ⟨S, fun k => by rw [L_X11_heldNow_6, if_pos (by decide)], eS_r _ _ _ S, h4⟩
  | succ j ih =>
    intro m S f h1 h2 h3 h4
    obtain ⟨f, rfl⟩ : ∃ a, f = a + 1 := ⟨f - 1, by omega⟩
    have hmon := sN_mon (g := bt W) (i := m) 60 (by omega)
    have hc := c_le W
    have g1 := gB_f (X1 := X) rfl h3 g
    rcases bt_01 W m with e | e
    · obtain ⟨S1, q1, q2, q3⟩ := ih (m + 1) S f (by omega) (by omega) h3 (fun i hi => by
        rw [sN_s, e] at hi
        rw [gA_s, if_neg (by omega)]
        exact h4 i (by omega))
      refine ⟨S1, fun k => ?_, q2, q3⟩
      rw [L_X11_heldNow_6, if_neg (show ¬ (60 : Int32) ≤ nI m from nI_ge (b := 60) (by omega) (by decide)), g1.2.2 m (by omega), Option.bind_some, e, if_pos nI_0]
      simp only [lt, nI_1]
      have q := q1 k
      rw [sN_s, e, Nat.add_zero] at q
      exact q
    · have hs : sN (bt W) (m + 1) ≤ sN (bt W) 60 := sN_mon (g := bt W) (i := m + 1) 60 (by omega)
      rw [sN_s, e] at hs
      obtain ⟨S1, q1, q2, q3⟩ := ih (m + 1) (sA S 4 (upd (zA S 4) (sN (bt W) m) (nI m))) f (by omega) (by omega) (by rw [zA_sA, if_neg (by decide)]; exact h3) (fun i hi => by
        rw [sN_s, e] at hi
        rw [zA_sA, if_pos rfl, gA_s]
        by_cases z : i = sN (bt W) m
        · rw [if_pos ⟨e, z⟩, z, upd_s]
        · rw [if_neg (fun y => z y.2), upd_n _ _ z]
          exact h4 i (by omega))
      refine ⟨S1, fun k => ?_, eS_t (eS_A (eS_r _ _ _ S) 4 _ (by decide)) q2, q3⟩
      rw [L_X11_heldNow_6, if_neg (show ¬ (60 : Int32) ≤ nI m from nI_ge (b := 60) (by omega) (by decide)), g1.2.2 m (by omega), Option.bind_some, e, if_neg (by decide), ibd_nI (show sN (bt W) m < 60 by omega) (by decide), nIN (by omega)]
      simp only [lt, nI_1]
      have q := q1 k
      rw [sN_s, e] at q
      exact q
-- least waits
def om : Option Nat → Option Nat → Option Nat
  | none, y => y
  | some a, none => some a
  | some a, some b => some (min a b)
def mO (f : Nat → Option Nat) : Nat → Option Nat
  | 0 => none
  | e + 1 => om (mO f e) (f e)
def thr (now th : Nat) (o : Option Nat) : Option Nat := if now < th then o.map (fun a => tri (th - now) + a) else none
def dO (G : Nat → Nat) (h e0 : Nat) : Nat → Nat → Nat → Option Nat
  | 0 => fun b d => if G b + d < 60 then some (tri (e0 - (G b + d))) else none
  | j + 1 => fun b d => if G b + d < 60 then mO (fun e => thr (G b + d) (G (b + 1) + e) (dO G h e0 j (b + 1) e)) (h + 1) else none
theorem om_or {x y : Option Nat} {a : Nat} (h : om x y = some a) : x = some a ∨ y = some a := by
  cases x with
  | none => exact Or.inr h
  | some b =>
    cases y with
    | none => exact Or.inl h
    | some c =>
      unfold om at h
      have h : min b c = a := Option.some.inj h
      rcases Nat.le_total b c with z | z
      · left; rw [← h, Nat.min_eq_left z]
      · right; rw [← h, Nat.min_eq_right z]
theorem om_nn {x y : Option Nat} (h : x ≠ none ∨ y ≠ none) : om x y ≠ none := by
  cases x with
  | none =>
    rcases h with h | h
    · exact absurd rfl h
    · exact h
  | some b =>
    cases y with
    | none => exact fun q => by cases q
    | some c => exact fun q => by cases q
theorem mO_ex {f : Nat → Option Nat} {a : Nat} : ∀ n, mO f n = some a → ∃ e, e < n ∧ f e = some a := by
  intro n
  induction n with
  | zero => intro h; cases h
  | succ n ih =>
    intro h
    rcases om_or h with q | q
    · obtain ⟨e, h1, h2⟩ := ih q
      exact ⟨e, by omega, h2⟩
    · exact ⟨n, by omega, q⟩
theorem mO_nn {f : Nat → Option Nat} {e : Nat} (h : f e ≠ none) : ∀ n, e < n → mO f n ≠ none := by
  intro n
  induction n with
  | zero => intro q; omega
  | succ n ih =>
    intro q
    by_cases z : e = n
    · exact om_nn (Or.inr (by rw [← z]; exact h))
    · exact om_nn (Or.inl (ih (by omega)))
def bd (B : Nat) (o : Option Nat) : Prop := ∀ a, o = some a → a ≤ B
theorem bd_m {f : Nat → Option Nat} {B n : Nat} (h : ∀ e, e < n → bd B (f e)) {m : Nat} (hm : m ≤ n) : bd B (mO f m) := fun a ha => by
  obtain ⟨e, h1, h2⟩ := mO_ex m ha
  exact h e (by omega) a h2
theorem tri_m {x : Nat} (h : x ≤ 124) : tri x ≤ 7626 := by
  have : x * (x - 1) ≤ 124 * 123 := Nat.mul_le_mul h (by omega)
  unfold tri
  omega
theorem thr_s {now th a : Nat} {o : Option Nat} (h : thr now th o = some a) : now < th ∧ ∃ c, o = some c ∧ a = tri (th - now) + c := by
  unfold thr at h
  by_cases z : now < th
  · rw [if_pos z] at h
    cases o with
    | none => cases h
    | some c => exact ⟨z, c, rfl, (Option.some.inj h).symm⟩
  · rw [if_neg z] at h
    cases h
theorem dO_bd {G : Nat → Nat} {h e0 : Nat} (hG : ∀ i, G i ≤ 59) (hh : h ≤ 5) (he : e0 ≤ 124) : ∀ j b d, bd ((j + 1) * 7626) (dO G h e0 j b d) := by
  intro j
  induction j with
  | zero =>
    intro b d a ha
    unfold dO at ha
    by_cases z : G b + d < 60
    · rw [if_pos z] at ha
      have := tri_m (x := e0 - (G b + d)) (by omega)
      have := Option.some.inj ha
      omega
    · rw [if_neg z] at ha
      cases ha
  | succ j ih =>
    intro b d a ha
    unfold dO at ha
    by_cases z : G b + d < 60
    · rw [if_pos z] at ha
      obtain ⟨e, h1, h2⟩ := mO_ex _ ha
      obtain ⟨h3, c, h4, h5⟩ := thr_s h2
      have := ih _ _ c h4
      have := hG (b + 1)
      have := tri_m (x := G (b + 1) + e - (G b + d)) (by omega)
      omega
    · rw [if_neg z] at ha
      cases ha
theorem thr_bd {B now th : Nat} {o : Option Nat} (ht : th ≤ now + 124) (h : bd B o) : bd (B + 7626) (thr now th o) := fun a ha => by
  obtain ⟨h1, c, h2, h3⟩ := thr_s ha
  have := h c h2
  have := tri_m (x := th - now) (by omega)
  omega
def tv (K now th : Nat) (o : Option Nat) : Nat := if now < th then tri (th - now) + o.getD K else K
theorem om_v {K B now th : Nat} {x o : Option Nat} (hx : bd B x) (ho : bd B (thr now th o)) (hB : B < K) : (om x (thr now th o)).getD K = min (x.getD K) (tv K now th o) := by
  unfold thr tv at *
  by_cases z : now < th
  · rw [if_pos z] at ho ⊢
    rw [if_pos z]
    cases o with
    | none =>
      show (om x none).getD K = min (x.getD K) (tri (th - now) + K)
      cases x with
      | none => show K = min K _; omega
      | some b =>
        have := hx b rfl
        show b = min b _
        omega
    | some c =>
      show (om x (some (tri (th - now) + c))).getD K = min (x.getD K) (tri (th - now) + c)
      have : tri (th - now) + c ≤ B := ho _ rfl
      cases x with
      | none => show tri (th - now) + c = min K _; omega
      | some b => rfl
  · rw [if_neg z]
    rw [if_neg z]
    cases x with
    | none => show K = min K K; omega
    | some b =>
      have := hx b rfl
      show b = min b K
      omega
theorem tv_eq {K now th a : Nat} {o : Option Nat} (hB : a < K) : tv K now th o = a ↔ thr now th o = some a := by
  unfold tv thr
  by_cases z : now < th
  · rw [if_pos z, if_pos z]
    cases o with
    | none =>
      constructor
      · intro q
        have q : tri (th - now) + K = a := q
        omega
      · intro q; cases q
    | some c =>
      constructor
      · intro q
        exact congrArg some q
      · intro q
        exact Option.some.inj q
  · rw [if_neg z, if_neg z]
    constructor
    · intro q; omega
    · intro q; cases q
theorem tv_le {K B now th : Nat} {o : Option Nat} (ht : th ≤ now + 124) (h : bd B o) (hB : B ≤ K) : tv K now th o ≤ K + 7626 := by
  unfold tv
  have := tri_m (x := th - now) (by omega)
  cases o with
  | none =>
    show (if now < th then tri (th - now) + K else K) ≤ _
    split <;> omega
  | some c =>
    have := h c rfl
    show (if now < th then tri (th - now) + c else K) ≤ _
    split <;> omega
theorem g_le {K B : Nat} {o : Option Nat} (h : bd B o) (hB : B ≤ K) : o.getD K ≤ K := by
  cases o with
  | none => exact Nat.le_refl K
  | some c => exact Nat.le_trans (h c rfl) hB
