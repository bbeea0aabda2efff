theorem b2_some {α β γ : Type} (a : α) (s : β) (f : α → β → Option γ) : b2 (some (a, s)) f = f a s := rfl
theorem ibd_nI {α : Type} {i n : Nat} (h : i < n) (hn : n < 2 ^ 31) (o : Option α) : ibd (nI i) n o = o := by
  unfold ibd
  rw [if_neg (nI_in h hn)]
theorem nIN {i : Nat} (h : i < 2 ^ 31) : (nI i).toNatClampNeg = i := nI_clamp h
theorem zI_sI (S : zSt) (k j : Nat) (v : Int32) : zI (sI S k v) j = if j = k then v else zI S j := rfl
theorem zI_sA (S : zSt) (k j : Nat) (f : Nat → Int32) : zI (sA S k f) j = zI S j := rfl
theorem zI_sJ (S : zSt) (k j : Nat) (v : Int64) : zI (sJ S k v) j = zI S j := rfl
theorem zI_sL (S : zSt) (k j : Nat) (f : Nat → Int64) : zI (sL S k f) j = zI S j := rfl
theorem zA_sA (S : zSt) (k j : Nat) (f : Nat → Int32) : zA (sA S k f) j = if j = k then f else zA S j := rfl
theorem zA_sI (S : zSt) (k j : Nat) (v : Int32) : zA (sI S k v) j = zA S j := rfl
theorem zA_sJ (S : zSt) (k j : Nat) (v : Int64) : zA (sJ S k v) j = zA S j := rfl
theorem zA_sL (S : zSt) (k j : Nat) (f : Nat → Int64) : zA (sL S k f) j = zA S j := rfl
theorem zJ_sJ (S : zSt) (k j : Nat) (v : Int64) : zJ (sJ S k v) j = if j = k then v else zJ S j := rfl
theorem zJ_sI (S : zSt) (k j : Nat) (v : Int32) : zJ (sI S k v) j = zJ S j := rfl
theorem zJ_sA (S : zSt) (k j : Nat) (f : Nat → Int32) : zJ (sA S k f) j = zJ S j := rfl
theorem zL_sL (S : zSt) (k j : Nat) (f : Nat → Int64) : zL (sL S k f) j = if j = k then f else zL S j := rfl
theorem zL_sI (S : zSt) (k j : Nat) (v : Int32) : zL (sI S k v) j = zL S j := rfl
theorem zL_sJ (S : zSt) (k j : Nat) (v : Int64) : zL (sJ S k v) j = zL S j := rfl
theorem zL_sA (S : zSt) (k j : Nat) (f : Nat → Int32) : zL (sA S k f) j = zL S j := rfl
theorem upd_s (f : Nat → Int32) (k : Nat) (x : Int32) : upd f k x k = x := if_pos rfl
theorem upd_n (f : Nat → Int32) {k j : Nat} (x : Int32) (h : j ≠ k) : upd f k x j = f j := if_neg h
theorem p_out (v lo hi : Int32) : F_X10_outside v lo hi = some (if lo ≤ v ∧ v ≤ hi then 0 else 1) := by
  unfold F_X10_outside
  by_cases h1 : v < lo
  · rw [if_pos h1, if_neg (fun h => Int32.not_le.mpr h1 h.1)]
  · rw [if_neg h1]
    by_cases h2 : v ≤ hi
    · rw [if_pos h2, if_pos ⟨Int32.not_lt.mp h1, h2⟩]
    · rw [if_neg h2, if_neg (fun h => h2 h.2)]
theorem p_in (v lo hi : Int32) : F_X11_in v lo hi = some (if lo ≤ v ∧ v ≤ hi then 1 else 0) := by
  unfold F_X11_in
  by_cases h1 : v < lo
  · rw [if_pos h1, if_neg (fun h => Int32.not_le.mpr h1 h.1)]
  · rw [if_neg h1]
    by_cases h2 : v ≤ hi
    · rw [if_neg (Int32.not_lt.mpr h2), if_pos ⟨Int32.not_lt.mp h1, h2⟩]
    · rw [if_pos (Int32.not_le.mp h2), if_neg (fun h => h2 h.2)]
theorem rng {x lo hi : Int32} (a b : Nat) (hlo : lo = nI a) (hhi : hi = nI b) (hb : b < 2 ^ 31) (hab : a < 2 ^ 31) (h : lo ≤ x ∧ x ≤ hi) : ∃ j, a ≤ j ∧ j ≤ b ∧ x = nI j := by
  subst hlo
  subst hhi
  have h1 := Int32.le_iff_toInt_le.mp h.1
  have h2 := Int32.le_iff_toInt_le.mp h.2
  rw [nI_toInt hab] at h1
  rw [nI_toInt hb] at h2
  have hn : ¬ x < 0 := by
    intro hx
    have := Int32.lt_iff_toInt_lt.mp hx
    rw [Int32.toInt_zero] at this
    omega
  obtain ⟨j, hj, rfl⟩ := nI_of hn
  rw [nI_toInt hj] at h1 h2
  exact ⟨j, by omega, by omega, rfl⟩
theorem rng' {a b j : Nat} (h1 : a ≤ j) (h2 : j ≤ b) (hb : b < 2 ^ 31) : nI a ≤ nI j ∧ nI j ≤ nI b := ⟨nI_le h1 (by omega), nI_le h2 hb⟩
/-- S1 is S but at the named places -/
def eS (I A L : List Nat) (S S1 : zSt) : Prop := (∀ k, k ∉ I → zI S1 k = zI S k) ∧ (∀ k, k ∉ A → zA S1 k = zA S k) ∧ ∀ k, k ∉ L → zL S1 k = zL S k
theorem eS_rf (S : zSt) : eS [] [] [] S S := ⟨fun _ _ => rfl, fun _ _ => rfl, fun _ _ => rfl⟩
theorem eS_w {I A L I' A' L' : List Nat} {S S1 : zSt} (h : eS I A L S S1) (hI : ∀ k ∈ I, k ∈ I') (hA : ∀ k ∈ A, k ∈ A') (hL : ∀ k ∈ L, k ∈ L') : eS I' A' L' S S1 := ⟨fun k hk => h.1 k (fun q => hk (hI k q)), fun k hk => h.2.1 k (fun q => hk (hA k q)), fun k hk => h.2.2 k (fun q => hk (hL k q))⟩
theorem eS_t {I A L : List Nat} {S S1 S2 : zSt} (h : eS I A L S S1) (h2 : eS I A L S1 S2) : eS I A L S S2 := ⟨fun k hk => (h2.1 k hk).trans (h.1 k hk), fun k hk => (h2.2.1 k hk).trans (h.2.1 k hk), fun k hk => (h2.2.2 k hk).trans (h.2.2 k hk)⟩
theorem eS_I {I A L : List Nat} {S S1 : zSt} (h : eS I A L S S1) (k : Nat) (v : Int32) (hk : k ∈ I) : eS I A L S (sI S1 k v) := ⟨fun j hj => by rw [zI_sI, if_neg (fun e : j = k => hj (by rw [e]; exact hk))]; exact h.1 j hj, fun j hj => h.2.1 j hj, fun j hj => h.2.2 j hj⟩
theorem eS_J {I A L : List Nat} {S S1 : zSt} (h : eS I A L S S1) (k : Nat) (v : Int64) : eS I A L S (sJ S1 k v) := h
theorem eS_A {I A L : List Nat} {S S1 : zSt} (h : eS I A L S S1) (k : Nat) (f : Nat → Int32) (hk : k ∈ A) : eS I A L S (sA S1 k f) := ⟨fun j hj => h.1 j hj, fun j hj => by rw [zA_sA, if_neg (fun e : j = k => hj (by rw [e]; exact hk))]; exact h.2.1 j hj, fun j hj => h.2.2 j hj⟩
theorem eS_L {I A L : List Nat} {S S1 : zSt} (h : eS I A L S S1) (k : Nat) (f : Nat → Int64) (hk : k ∈ L) : eS I A L S (sL S1 k f) := ⟨fun j hj => h.1 j hj, fun j hj => h.2.1 j hj, fun j hj => by rw [zL_sL, if_neg (fun e : j = k => hj (by rw [e]; exact hk))]; exact h.2.2 j hj⟩
-- the relation
def rT (X M : zSt) : Prop := ∃ t : Nat, t ≤ 40 ∧ zI X 0 = nI t ∧ zI M 0 = nI t ∧ ∀ i, i < t → ∃ v : Nat, v < 256 ∧ zA X 10 i = nI v ∧ zA M 1 i = nI v
def rL (X M : zSt) : Prop := ∀ n, n < 2 → ∃ w : Nat, w < 2 ^ 60 ∧ zL X 11 n = lN w ∧ ∀ m, m < 60 → zA M 3 (60 * n + m) = if w.testBit m then 1 else 0
def rS (X M : zSt) : Prop := ∃ n now sf : Nat, n ≤ 40 ∧ now ≤ 999 ∧ sf ≤ 999 ∧ zI X 4 = nI n ∧ zI M 2 = nI n ∧ zI X 5 = nI now ∧ zI M 3 = nI now ∧ zI X 6 = nI sf ∧ zI M 4 = nI sf ∧ ∀ i, i < n → ∃ a t : Nat, 1 ≤ a ∧ a ≤ 8 ∧ t ≤ 999 ∧ zA X 15 i = nI a ∧ zA M 7 i = nI a ∧ zA X 16 i = nI t ∧ zA M 8 i = nI t ∧ ((zA X 17 i = nI 1000 ∧ zA M 9 i = -1) ∨ ∃ d : Nat, d ≤ 999 ∧ zA X 17 i = nI d ∧ zA M 9 i = nI d)
def rC (X M : zSt) : Prop := ∀ t, t < 4 → ∀ n, 1 ≤ n → n ≤ 8 → ∃ v : Nat, v ≤ 9 ∧ zA X (38 + t) n = nI v ∧ zA M 10 (9 * t + n) = nI v
def rW (X M : zSt) : Prop := ∃ n : Nat, n ≤ 24 ∧ zI X 7 = nI n ∧ zI M 5 = nI n ∧ ∀ i, i < n → ∃ f l : Nat, f ≤ l ∧ l ≤ 99 ∧ l ≤ f + 19 ∧ zA X 19 i = nI f ∧ zA M 11 i = nI f ∧ zA X 20 i = nI l ∧ zA M 12 i = nI l
def rF (X M : zSt) : Prop := ∃ h : Nat → Nat, (∀ p, p < 8 → h p < 256 ∧ zA X 21 p = nI (h p) ∧ zA M 13 p = nI (h p)) ∧ (∀ a b, a < 8 → b < 8 → (h a).testBit b = (h b).testBit a) ∧ ∀ a, a < 8 → (h a).testBit a = false
def rR (X M : zSt) : Prop := ∃ (n : Nat) (len : Nat → Nat), n ≤ 8 ∧ zI X 8 = nI n ∧ zI M 6 = nI n ∧ ∀ i, i < n → 1 ≤ len i ∧ len i ≤ 20 ∧ zA X 22 i = nI (len i) ∧ zA M 14 i = nI (len i)
def rH (X M : zSt) : Prop := zI X 9 = zI M 7 ∧ ∀ s, s < 4 → (zA X 25 s = -1 ∧ zA M 15 s = 0) ∨ ∃ n f : Nat, n ≤ 60 ∧ f ≤ 2 ∧ zA X 25 s = nI n ∧ zA M 15 s = 1 ∧ zA M 17 s = nI n ∧ zA X 24 s = nI f ∧ zA M 16 s = nI f ∧ ∀ i, i < n → zA X (42 + s) i = zA M 18 (60 * s + i)
def zR (X M : zSt) : Prop := rT X M ∧ rL X M ∧ rS X M ∧ rC X M ∧ rW X M ∧ rF X M ∧ rR X M ∧ rH X M
section FR
variable {I A L I' A' L' : List Nat} {X X1 M M1 : zSt}
theorem rT_f (hX : eS I A L X X1) (hM : eS I' A' L' M M1) (h1 : 0 ∉ I ∧ 10 ∉ A ∧ 0 ∉ I' ∧ 1 ∉ A') (h : rT X M) : rT X1 M1 := by
  unfold rT at *
  rw [hX.1 0 h1.1, hX.2.1 10 h1.2.1, hM.1 0 h1.2.2.1, hM.2.1 1 h1.2.2.2]
  exact h
theorem rL_f (hX : eS I A L X X1) (hM : eS I' A' L' M M1) (h1 : 11 ∉ L ∧ 3 ∉ A') (h : rL X M) : rL X1 M1 := by
  unfold rL at *
  rw [hX.2.2 11 h1.1, hM.2.1 3 h1.2]
  exact h
theorem rS_f (hX : eS I A L X X1) (hM : eS I' A' L' M M1) (h1 : 4 ∉ I ∧ 5 ∉ I ∧ 6 ∉ I ∧ 15 ∉ A ∧ 16 ∉ A ∧ 17 ∉ A ∧ 2 ∉ I' ∧ 3 ∉ I' ∧ 4 ∉ I' ∧ 7 ∉ A' ∧ 8 ∉ A' ∧ 9 ∉ A') (h : rS X M) : rS X1 M1 := by
  obtain ⟨a1, a2, a3, a4, a5, a6, a7, a8, a9, a10, a11, a12⟩ := h1
  unfold rS at *
  rw [hX.1 4 a1, hX.1 5 a2, hX.1 6 a3, hX.2.1 15 a4, hX.2.1 16 a5, hX.2.1 17 a6, hM.1 2 a7, hM.1 3 a8, hM.1 4 a9, hM.2.1 7 a10, hM.2.1 8 a11, hM.2.1 9 a12]
  exact h
theorem rC_f (hX : eS I A L X X1) (hM : eS I' A' L' M M1) (h1 : (∀ t, t < 4 → 38 + t ∉ A) ∧ 10 ∉ A') (h : rC X M) : rC X1 M1 := by
  intro t ht n hn hn2
  rw [hX.2.1 _ (h1.1 t ht), hM.2.1 10 h1.2]
  exact h t ht n hn hn2
theorem rW_f (hX : eS I A L X X1) (hM : eS I' A' L' M M1) (h1 : 7 ∉ I ∧ 19 ∉ A ∧ 20 ∉ A ∧ 5 ∉ I' ∧ 11 ∉ A' ∧ 12 ∉ A') (h : rW X M) : rW X1 M1 := by
  obtain ⟨a1, a2, a3, a4, a5, a6⟩ := h1
  unfold rW at *
  rw [hX.1 7 a1, hX.2.1 19 a2, hX.2.1 20 a3, hM.1 5 a4, hM.2.1 11 a5, hM.2.1 12 a6]
  exact h
theorem rF_f (hX : eS I A L X X1) (hM : eS I' A' L' M M1) (h1 : 21 ∉ A ∧ 13 ∉ A') (h : rF X M) : rF X1 M1 := by
  unfold rF at *
  rw [hX.2.1 21 h1.1, hM.2.1 13 h1.2]
  exact h
theorem rR_f (hX : eS I A L X X1) (hM : eS I' A' L' M M1) (h1 : 8 ∉ I ∧ 22 ∉ A ∧ 6 ∉ I' ∧ 14 ∉ A') (h : rR X M) : rR X1 M1 := by
  unfold rR at *
  rw [hX.1 8 h1.1, hX.2.1 22 h1.2.1, hM.1 6 h1.2.2.1, hM.2.1 14 h1.2.2.2]
  exact h
theorem rH_f (hX : eS I A L X X1) (hM : eS I' A' L' M M1) (h1 : 9 ∉ I ∧ 24 ∉ A ∧ 25 ∉ A ∧ (∀ s, s < 4 → 42 + s ∉ A) ∧ 7 ∉ I' ∧ 15 ∉ A' ∧ 16 ∉ A' ∧ 17 ∉ A' ∧ 18 ∉ A') (h : rH X M) : rH X1 M1 := by
  obtain ⟨a1, a2, a3, a4, a5, a6, a7, a8, a9⟩ := h1
  unfold rH at *
  rw [hX.1 9 a1, hX.2.1 24 a2, hX.2.1 25 a3, hM.1 7 a5, hM.2.1 15 a6, hM.2.1 16 a7, hM.2.1 17 a8, hM.2.1 18 a9]
  refine ⟨h.1, fun s hs => ?_⟩
  rw [hX.2.1 _ (a4 s hs)]
  exact h.2 s hs
end FR
/-- only the scratch places changed -/
theorem zR_scr {X X1 M M1 : zSt} (hX : eS [1, 2, 3] [12, 13, 26, 27, 28, 29, 30, 31, 32, 33, 34, 35, 36, 37] [] X X1) (hM : eS [1] [2, 4, 5, 6, 19] [] M M1) (h : zR X M) : zR X1 M1 :=
  ⟨rT_f hX hM (by decide) h.1, rL_f hX hM (by decide) h.2.1, rS_f hX hM (by decide) h.2.2.1, rC_f hX hM (by decide) h.2.2.2.1, rW_f hX hM (by decide) h.2.2.2.2.1, rF_f hX hM (by decide) h.2.2.2.2.2.1, rR_f hX hM (by decide) h.2.2.2.2.2.2.1, rH_f hX hM (by decide) h.2.2.2.2.2.2.2⟩
