-- shares and sizes
theorem cN_0 {p : Nat → Bool} : ∀ n, cN p n = 0 → ∀ i, i < n → p i = false
  | 0, _, i, hi => by omega
  | n + 1, h, i, hi => by
    unfold cN at h
    by_cases e : i = n
    · subst e
      cases hp : p i with
      | false => rfl
      | true => rw [hp] at h; simp at h
    · exact cN_0 n (by omega) i (by omega)
theorem cN_00 {p : Nat → Bool} : ∀ n, (∀ i, i < n → p i = false) → cN p n = 0
  | 0, _ => rfl
  | n + 1, h => by
    unfold cN
    rw [cN_00 n (fun i hi => h i (by omega)), h n (by omega)]
    rfl
theorem sN_0 {g : Nat → Nat} : ∀ n, sN g n = 0 → ∀ i, i < n → g i = 0
  | 0, _, i, hi => by omega
  | n + 1, h, i, hi => by
    unfold sN at h
    by_cases e : i = n
    · subst e; omega
    · exact sN_0 n (by omega) i (by omega)
def gP (M : zSt) (n i : Nat) : Nat := cN (sp M (nI (i + 1))) n * (840 / (i + 1))
def gQ (M : zSt) (n i : Nat) : Nat := (i + 1) * cN (sp M (nI (i + 1))) n
theorem gP_le {M : zSt} {n i : Nat} (hn : n ≤ 40) : gP M n i ≤ 40 * 840 := Nat.mul_le_mul (Nat.le_trans (cN_le _ _) hn) (Nat.div_le_self _ _)
theorem gQ_le {M : zSt} {n i : Nat} (hn : n ≤ 40) (hi : i < 8) : gQ M n i ≤ 8 * 40 := Nat.mul_le_mul (by omega) (Nat.le_trans (cN_le _ _) hn)
theorem g_0 {X M : zSt} (hR : zR X M) {n : Nat} (hn : n ≤ 40) (e : zI M 2 = nI n) : (cN (sco M) n = 0 ↔ sN (gP M n) 8 = 0) := by
  constructor
  · intro h
    have h := cN_0 n h
    have : ∀ i, gP M n i = 0 := fun i => by
      unfold gP
      rw [cN_00 n (fun j hj => by unfold sp; rw [h j hj]; rfl), Nat.zero_mul]
    have := sN_le' (gP M n) 0 8 (fun i _ => by rw [this i]; exact Nat.le_refl 0)
    omega
  · intro h
    have h := sN_0 8 h
    obtain ⟨n', now, sf, h1, h2, h3, e1, e2, e3, e4, e5, e6, hb⟩ := hR.2.2.1
    have : n = n' := (nI_eq (by omega) (by omega)).mp (e.symm.trans e2)
    subst this
    refine cN_00 n (fun i hi => ?_)
    obtain ⟨a, t, a1, a2, -, -, a3, -⟩ := hb i hi
    have hg := h (a - 1) (by omega)
    unfold gP at hg
    rw [show a - 1 + 1 = a by omega] at hg
    have : 840 / a ≠ 0 := by
      have : 840 / 8 ≤ 840 / a := Nat.div_le_div_left a2 (by omega)
      omega
    have hc := (Nat.mul_eq_zero.mp hg).resolve_right this
    have := cN_0 n hc i hi
    unfold sp at this
    rw [a3] at this
    simpa using this
theorem g_all {X M : zSt} (hR : zR X M) : ∃ n : Nat, n ≤ 40 ∧ zI M 2 = nI n ∧ F_X7_counting X = some (nI (cN (sco M) n)) ∧ F_X11_saidOf M 0 = some (nI (cN (sco M) n)) ∧ (∀ i, i < 8 → F_X7_saying X (nI (i + 1)) = some (nI (cN (sp M (nI (i + 1))) n)) ∧ F_X11_saidOf M (nI (i + 1)) = some (nI (cN (sp M (nI (i + 1))) n)) ∧ F_X7_familyParts X (nI (i + 1)) = some (nI (gP M n i))) ∧ F_X7_allFamilyParts X = some (nI (sN (gP M n) 8)) ∧ F_X11_familyParts M = some (nI (sN (gP M n) 8)) ∧ F_X7_childrenSaid X = some (nI (sN (gQ M n) 8)) := by
  obtain ⟨n, hn, e1, e2, h1, h2, h3⟩ := s_all hR
  have hS : ∀ i, i < 8 → F_X7_saying X (nI (i + 1)) = some (nI (cN (sp M (nI (i + 1))) n)) ∧ F_X11_saidOf M (nI (i + 1)) = some (nI (cN (sp M (nI (i + 1))) n)) := fun i hi => ⟨(h3 _).1, (h3 _).2 (nI_ne0 (by omega) (by omega))⟩
  have hP : ∀ i, i < 8 → F_X7_familyParts X (nI (i + 1)) = some (nI (gP M n i)) := fun i hi => by
    unfold F_X7_familyParts nz
    rw [if_neg (nI_nle (by omega) (by omega)), (hS i hi).1, Option.bind_some, if_neg (nI_ne0 (by omega) (by omega)), show (840 : Int32) = nI 840 from rfl, pk_div (by omega) (by omega) (by omega), pk_mul]
    rfl
  refine ⟨n, hn, e2, h1, h2, fun i hi => ⟨(hS i hi).1, (hS i hi).2, hP i hi⟩, ?_, ?_, ?_⟩
  · unfold F_X7_allFamilyParts
    simp only [lt]
    refine loopN (L := fun f (q : Int32 × Int32) => L_X7_allFamilyParts_4 X (fun w => some w) f q.1 q.2) (st := fun i => (nI (sN (gP M n) i), nI (i + 1))) 8 _ (fun f => ?_) (fun f i hi => ?_) 1000 0 (by omega) (by omega)
    · show L_X7_allFamilyParts_4 X (fun w => some w) (f + 1) _ (nI 9) = _
      rw [L_X7_allFamilyParts_4, if_pos (by decide)]
    · show L_X7_allFamilyParts_4 X (fun w => some w) (f + 1) (nI (sN (gP M n) i)) (nI (i + 1)) = L_X7_allFamilyParts_4 X (fun w => some w) f (nI (sN (gP M n) i + gP M n i)) (nI (i + 1 + 1))
      rw [L_X7_allFamilyParts_4, if_neg (show ¬ (8 : Int32) < nI (i + 1) from nI_nlt (a := 8) (by omega) (by decide)), hP i hi, Option.bind_some]
      simp only [lt, nI_1, nI_add]
  · unfold F_X11_familyParts
    simp only [lt]
    refine loopN (L := fun f (q : Int32 × Int32) => L_X11_familyParts_4 M (fun w => some w) f q.1 q.2) (st := fun i => (nI (sN (gP M n) i), nI (i + 1))) 8 _ (fun f => ?_) (fun f i hi => ?_) 1000 0 (by omega) (by omega)
    · show L_X11_familyParts_4 M (fun w => some w) (f + 1) _ (nI 9) = _
      rw [L_X11_familyParts_4, if_pos (by decide)]
    · show L_X11_familyParts_4 M (fun w => some w) (f + 1) (nI (sN (gP M n) i)) (nI (i + 1)) = L_X11_familyParts_4 M (fun w => some w) f (nI (sN (gP M n) i + gP M n i)) (nI (i + 1 + 1))
      rw [L_X11_familyParts_4, if_neg (show ¬ (9 : Int32) ≤ nI (i + 1) from nI_ge (b := 9) (by omega) (by decide)), (hS i hi).2, Option.bind_some]
      unfold nz
      rw [if_neg (nI_ne0 (by omega) (by omega)), show (840 : Int32) = nI 840 from rfl, pk_div (by omega) (by omega) (by omega), pk_mul]
      simp only [lt, nI_1, nI_add]
      rfl
  · unfold F_X7_childrenSaid
    simp only [lt]
    refine loopN (L := fun f (q : Int32 × Int32) => L_X7_childrenSaid_4 X (fun w => some w) f q.1 q.2) (st := fun i => (nI (sN (gQ M n) i), nI (i + 1))) 8 _ (fun f => ?_) (fun f i hi => ?_) 1000 0 (by omega) (by omega)
    · show L_X7_childrenSaid_4 X (fun w => some w) (f + 1) _ (nI 9) = _
      rw [L_X7_childrenSaid_4, if_pos (by decide)]
    · show L_X7_childrenSaid_4 X (fun w => some w) (f + 1) (nI (sN (gQ M n) i)) (nI (i + 1)) = L_X7_childrenSaid_4 X (fun w => some w) f (nI (sN (gQ M n) i + gQ M n i)) (nI (i + 1 + 1))
      rw [L_X7_childrenSaid_4, if_neg (show ¬ (8 : Int32) < nI (i + 1) from nI_nlt (a := 8) (by omega) (by decide)), (hS i hi).1, Option.bind_some, pk_mul]
      simp only [lt, nI_1, nI_add]
      rfl
/-- the two ways of a fraction, where the second sees first whether there is anything to divide by -/
theorem fr_two {A B c : Nat} (hA : A < 2 ^ 31) (hB : B < 2 ^ 31) (hc : c < 2 ^ 31) (h0 : c = 0 ↔ B = 0) (w : Int32) : ∃ r, (F_X2_told (nI A).toInt64 (nI B).toInt64 w).bind (fun r => some r) = some r ∧ (if nI c = 0 then (F_X11_no (-3)).bind (fun r => some r) else (F_X11_lowest (nI A).toInt64 (nI B).toInt64 w).bind (fun r => some r)) = some r := by
  rw [nI_l hA, nI_l hB]
  by_cases h : B = 0
  · subst h
    rw [fr_0, if_pos ((nI_eq0 hc).mpr (h0.mpr rfl))]
    exact ⟨_, rfl, rfl⟩
  · obtain ⟨r, r1, r2⟩ := fr_eq (a := A) (b := B) (by omega) (by omega) (by omega) w
    rw [if_neg (fun q => h (h0.mp ((nI_eq0 hc).mp q))), r1, r2]
    exact ⟨r, rfl, rfl⟩
theorem s_sh {X M : zSt} (hR : zR X M) {v k : Nat} (hv : 1 ≤ v) (hv8 : v ≤ 8) (hk : k ≤ 1) {w : Int32} (hw : (0 : Int32) ≤ w ∧ w ≤ 1) : ∃ r, F_X10_share X (nI v) (nI k) w = some r ∧ F_X11_share M (nI v) (nI k) w = some r := by
  obtain ⟨n, hn, e2, h1, h2, h3, h4, h5, h6⟩ := g_all hR
  obtain ⟨i, rfl⟩ : ∃ i, v = i + 1 := ⟨v - 1, by omega⟩
  obtain ⟨g1, g2, g3⟩ := h3 i (by omega)
  have hr1 : (1 : Int32) ≤ nI (i + 1) ∧ nI (i + 1) ≤ 8 := rng' (a := 1) (b := 8) hv hv8 (by decide)
  have hr2 : (0 : Int32) ≤ nI k ∧ nI k ≤ 1 := rng' (a := 0) (b := 1) (by omega) hk (by decide)
  have c1 := cN_le (sco M) n
  have c2 := cN_le (sp M (nI (i + 1))) n
  have c3 := sN_le' (gP M n) (40 * 840) 8 (fun i _ => gP_le hn)
  have c4 := @gP_le M n i hn
  unfold F_X10_share F_X11_share
  rw [p_out, p_in, if_pos hr1, if_pos hr1, Option.bind_some, Option.bind_some]
  simp only [jn]
  rw [if_true, if_neg i01, p_out, p_in, if_pos hr2, if_pos hr2, Option.bind_some, Option.bind_some, if_pos rfl, if_neg i01, p_out, p_in, if_pos hw, if_pos hw, Option.bind_some, Option.bind_some, if_pos rfl, if_neg i01, h2, Option.bind_some]
  simp only [lt]
  have cases : k = 0 ∨ k = 1 := by omega
  rcases cases with rfl | rfl
  · rw [if_pos nI_0, if_pos nI_0, g1, g2, h1]
    simp only [Option.bind_some]
    exact fr_two (by omega) (by omega) (by omega) Iff.rfl w
  · rw [if_neg (show ¬ nI 1 = 0 by decide), if_neg (show ¬ nI 1 = 0 by decide), g3, h4, g2, h5]
    simp only [Option.bind_some]
    unfold nz
    rw [if_neg (show ¬ nI (i + 1) = 0 from nI_ne0 (by omega) (by omega)), show (840 : Int32) = nI 840 from rfl, pk_div (by omega) (by omega) (by omega), pk_mul]
    exact fr_two (A := gP M n i) (by omega) (by omega) (by omega) (g_0 hR hn e2) w
theorem a_share : ag_share zR := by
  intro SX SM a1 a2 a3 hR
  by_cases h1 : (1 : Int32) ≤ a1 ∧ a1 ≤ 8
  · by_cases h2 : (0 : Int32) ≤ a2 ∧ a2 ≤ 1
    · by_cases h3 : (0 : Int32) ≤ a3 ∧ a3 ≤ 1
      · obtain ⟨v, hv, hv8, rfl⟩ := rng 1 8 rfl rfl (by decide) (by decide) h1
        obtain ⟨k, -, hk, rfl⟩ := rng 0 1 rfl rfl (by decide) (by decide) h2
        exact s_sh hR hv hv8 hk h3
      · unfold F_X10_share F_X11_share
        rw [p_out, p_in, if_pos h1, if_pos h1, Option.bind_some, Option.bind_some]
        simp only [jn]
        rw [if_true, if_neg i01, p_out, p_in, if_pos h2, if_pos h2, Option.bind_some, Option.bind_some, if_pos rfl, if_neg i01, p_out, p_in, if_neg h3, if_neg h3]
        exact ⟨_, rfl, rfl⟩
    · unfold F_X10_share F_X11_share
      rw [p_out, p_in, if_pos h1, if_pos h1, Option.bind_some, Option.bind_some]
      simp only [jn]
      rw [if_true, if_neg i01, p_out, p_in, if_neg h2, if_neg h2]
      exact ⟨_, rfl, rfl⟩
  · unfold F_X10_share F_X11_share
    rw [p_out, p_in, if_neg h1, if_neg h1]
    exact ⟨_, rfl, rfl⟩
theorem s_si {X M : zSt} (hR : zR X M) {k : Nat} (hk : k ≤ 1) {w : Int32} (hw : (0 : Int32) ≤ w ∧ w ≤ 1) : ∃ r, F_X10_size X (nI k) w = some r ∧ F_X11_sizeNow M (nI k) w = some r := by
  obtain ⟨n, hn, e2, h1, h2, h3, h4, h5, h6⟩ := g_all hR
  have hr2 : (0 : Int32) ≤ nI k ∧ nI k ≤ 1 := rng' (a := 0) (b := 1) (by omega) hk (by decide)
  have c1 := cN_le (sco M) n
  have c3 := sN_le' (gP M n) (40 * 840) 8 (fun i _ => gP_le hn)
  have c4 := sN_le' (gQ M n) (8 * 40) 8 (fun i hi => gQ_le hn hi)
  have hL : ∀ kk : Int32 → Option Int64, L_X11_sizeNow_22 M (nI k) w (nI (cN (sco M) n)) kk 1000 0 1 = kk (nI (sN (gQ M n) 8)) := fun kk => by
    refine loopN (L := fun f (q : Int32 × Int32) => L_X11_sizeNow_22 M (nI k) w (nI (cN (sco M) n)) kk f q.1 q.2) (st := fun i => (nI (sN (gQ M n) i), nI (i + 1))) 8 _ (fun f => ?_) (fun f i hi => ?_) 1000 0 (by omega) (by omega)
    · show L_X11_sizeNow_22 M (nI k) w (nI (cN (sco M) n)) kk (f + 1) _ (nI 9) = _
      rw [L_X11_sizeNow_22, if_pos (by decide)]
    · show L_X11_sizeNow_22 M (nI k) w (nI (cN (sco M) n)) kk (f + 1) (nI (sN (gQ M n) i)) (nI (i + 1)) = L_X11_sizeNow_22 M (nI k) w (nI (cN (sco M) n)) kk f (nI (sN (gQ M n) i + gQ M n i)) (nI (i + 1 + 1))
      rw [L_X11_sizeNow_22, if_neg (show ¬ (9 : Int32) ≤ nI (i + 1) from nI_ge (b := 9) (by omega) (by decide)), (h3 i hi).2.1, Option.bind_some, pk_mul]
      simp only [lt, nI_1, nI_add]
      rfl
  unfold F_X10_size F_X11_sizeNow
  rw [p_out, if_pos hr2, Option.bind_some]
  simp only [jn]
  rw [if_true, p_out, if_pos hw, Option.bind_some, if_pos rfl, h2, Option.bind_some]
  simp only [lt]
  rw [hL]
  have cases : k = 0 ∨ k = 1 := by omega
  rcases cases with rfl | rfl
  · rw [if_pos nI_0, if_pos nI_0, h6, h1]
    simp only [Option.bind_some]
    exact fr_two (by omega) (by omega) (by omega) Iff.rfl w
  · rw [if_neg (show ¬ nI 1 = 0 by decide), if_neg (show ¬ nI 1 = 0 by decide), h1, h4, h5]
    simp only [Option.bind_some]
    rw [nI_l (n := cN (sco M) n) (by omega), show (840 : Int64) = lN 840 from rfl, lN_mul, show (840 : Int32) = nI 840 from rfl, pk_mul, Nat.mul_comm 840, ← nI_l (n := cN (sco M) n * 840) (by omega)]
    exact fr_two (by omega) (by omega) (by omega) (g_0 hR hn e2) w
theorem a_size : ag_size zR := by
  intro SX SM a1 a2 hR
  by_cases h2 : (0 : Int32) ≤ a1 ∧ a1 ≤ 1
  · by_cases h3 : (0 : Int32) ≤ a2 ∧ a2 ≤ 1
    · obtain ⟨k, -, hk, rfl⟩ := rng 0 1 rfl rfl (by decide) (by decide) h2
      obtain ⟨r, r1, r2⟩ := s_si hR hk h3
      refine ⟨r, r1, ?_⟩
      unfold F_X11_size
      rw [p_in, if_pos h2, Option.bind_some]
      simp only [jn]
      rw [if_neg i01, p_in, if_pos h3, Option.bind_some, if_neg i01, r2]
      rfl
    · unfold F_X10_size F_X11_size
      rw [p_out, p_in, if_pos h2, if_pos h2, Option.bind_some, Option.bind_some]
      simp only [jn]
      rw [if_true, if_neg i01, p_out, p_in, if_neg h3, if_neg h3]
      exact ⟨_, rfl, rfl⟩
  · unfold F_X10_size F_X11_size
    rw [p_out, p_in, if_neg h2, if_neg h2]
    exact ⟨_, rfl, rfl⟩
