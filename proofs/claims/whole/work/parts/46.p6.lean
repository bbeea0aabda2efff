theorem lN_0 : lN 0 = 0 := rfl
theorem lN_eq0 {y : Nat} (h : y < 2 ^ 63) : lg_cmp (lN y) 0 = 0 ↔ y = 0 := by
  rw [lg_eq, ← lN_0, pk_lEQ h (by decide)]
theorem lN_ne0 {y : Nat} (h : y < 2 ^ 63) (h0 : y ≠ 0) : ¬ lN y = 0 := fun q => h0 ((pk_lEQ h (by decide)).mp (q.trans lN_0.symm))
theorem mod_half {y r k : Nat} (h0 : 0 < r) (h : r < y) (hy : y < 2 ^ (k + 1)) : y % r < 2 ^ k := by
  have h2 : y < 2 * 2 ^ k := by rw [Nat.pow_succ] at hy; omega
  by_cases hc : 2 * r ≤ y
  · have := Nat.mod_lt y h0
    omega
  · have e : y % r = y - r := by
      rw [Nat.mod_eq_sub_mod (by omega), Nat.mod_eq_of_lt (by omega)]
    omega
theorem eu_both (a0 a2 : Int64) (a4 : Int32) (kx : Int64 → Option Int64) (km : Int64 → Option Int64) : ∀ (k x y c f f' : Nat), y < 2 ^ k → k ≤ 62 → x < 2 ^ 63 → c + 2 * k + 2 ≤ 200 → 2 * k + 2 ≤ f → 2 * k + 2 ≤ f' → ∃ g : Nat, g < 2 ^ 63 ∧ (0 < x ∨ 0 < y → 0 < g) ∧ L_X2_commonOf_9 kx f (lN x) (lN y) (nI c) = kx (lN g) ∧ L_X11_lowest_6 a0 a2 a4 km f' (lN x) (lN y) = km (lN g) := by
  intro k
  induction k with
  | zero =>
    intro x y c f f' hy hk hx hc hf hf'
    obtain ⟨f, rfl⟩ : ∃ g, f = g + 1 := ⟨f - 1, by omega⟩
    obtain ⟨f', rfl⟩ : ∃ g, f' = g + 1 := ⟨f' - 1, by omega⟩
    have e : y = 0 := by omega
    subst e
    refine ⟨x, hx, fun h => by omega, ?_, ?_⟩
    · rw [L_X2_commonOf_9, if_neg (show ¬ (200 : Int32) ≤ nI c from nI_ge (b := 200) (by omega) (by decide)), if_pos (show lg_cmp (lN 0) 0 = 0 by decide)]
    · rw [L_X11_lowest_6, if_pos (show lg_cmp (lN 0) 0 = 0 by decide)]
  | succ k ih =>
    intro x y c f f' hy hk hx hc hf hf'
    obtain ⟨f, rfl⟩ : ∃ g, f = g + 1 := ⟨f - 1, by omega⟩
    obtain ⟨f', rfl⟩ : ∃ g, f' = g + 1 := ⟨f' - 1, by omega⟩
    have hy63 : y < 2 ^ 63 := Nat.lt_of_lt_of_le hy (Nat.pow_le_pow_right (by decide) (by omega))
    by_cases h0 : y = 0
    · subst h0
      refine ⟨x, hx, fun h => by omega, ?_, ?_⟩
      · rw [L_X2_commonOf_9, if_neg (show ¬ (200 : Int32) ≤ nI c from nI_ge (b := 200) (by omega) (by decide)), if_pos (show lg_cmp (lN 0) 0 = 0 by decide)]
      · rw [L_X11_lowest_6, if_pos (show lg_cmp (lN 0) 0 = 0 by decide)]
    · rw [L_X2_commonOf_9, if_neg (show ¬ (200 : Int32) ≤ nI c from nI_ge (b := 200) (by omega) (by decide)), if_neg (fun q => h0 ((lN_eq0 hy63).mp q)), L_X11_lowest_6, if_neg (fun q => h0 ((lN_eq0 hy63).mp q))]
      unfold nzl
      rw [if_neg (lN_ne0 hy63 h0)]
      simp only [lt]
      rw [if_neg (lN_ne0 hy63 h0), pk_lRem hx (by omega) hy63, nI_1]
      have hr : x % y < y := Nat.mod_lt x (by omega)
      generalize x % y = r at hr ⊢
      obtain ⟨f, rfl⟩ : ∃ g, f = g + 1 := ⟨f - 1, by omega⟩
      obtain ⟨f', rfl⟩ : ∃ g, f' = g + 1 := ⟨f' - 1, by omega⟩
      by_cases hr0 : r = 0
      · subst hr0
        refine ⟨y, hy63, fun _ => by omega, ?_, ?_⟩
        · rw [L_X2_commonOf_9, if_neg (show ¬ (200 : Int32) ≤ nI (c + 1) from nI_ge (b := 200) (by omega) (by decide)), if_pos (show lg_cmp (lN 0) 0 = 0 by decide)]
        · rw [L_X11_lowest_6, if_pos (show lg_cmp (lN 0) 0 = 0 by decide)]
      · have hr63 : r < 2 ^ 63 := by omega
        rw [L_X2_commonOf_9, if_neg (show ¬ (200 : Int32) ≤ nI (c + 1) from nI_ge (b := 200) (by omega) (by decide)), if_neg (fun q => hr0 ((lN_eq0 hr63).mp q)), L_X11_lowest_6, if_neg (fun q => hr0 ((lN_eq0 hr63).mp q))]
        unfold nzl
        rw [if_neg (lN_ne0 hr63 hr0)]
        simp only [lt]
        rw [if_neg (lN_ne0 hr63 hr0), pk_lRem hy63 (by omega) hr63, nI_1]
        obtain ⟨g, g1, g2, g3, g4⟩ := ih r (y % r) (c + 1 + 1) f f' (mod_half (by omega) hr hy) (by omega) hr63 (by omega) (by omega) (by omega)
        exact ⟨g, g1, fun _ => g2 (Or.inl (by omega)), g3, g4⟩
/-- a fraction told: alike on both sides -/
theorem fr_eq {a b : Nat} (ha : a < 2 ^ 63) (hb : 0 < b) (hb2 : b < 2 ^ 62) (w : Int32) : ∃ r, F_X2_told (lN a) (lN b) w = some r ∧ F_X11_lowest (lN a) (lN b) w = some r := by
  unfold F_X2_told F_X11_lowest F_X2_commonOf
  simp only [lt]
  obtain ⟨g, g1, g2, g3, g4⟩ := eu_both (lN a) (lN b) w (fun w4 => some w4) (fun w5 => if w = 0 then nzl w5 (some (lN a / w5)) else nzl w5 (some (lN b / w5))) 62 a b 0 1000 1000 hb2 (by omega) ha (by omega) (by omega) (by omega)
  have g3' : L_X2_commonOf_9 (fun w4 => some w4) 1000 (lN a) (lN b) 0 = some (lN g) := g3
  rw [g3', g4, Option.bind_some]
  simp only [jn]
  have hg : 0 < g := g2 (Or.inr hb)
  rw [if_neg (fun q => by rw [lg_le, ← lN_0, pk_lLT (by decide) (by omega)] at q; omega), if_pos (by rw [lg_pos, ← lN_0, pk_lLT (by decide) (by omega)]; exact hg)]
  by_cases hw : w = 0
  · rw [if_pos hw]
    unfold nzl
    rw [if_neg (lN_ne0 g1 (by omega))]
    exact ⟨_, rfl, rfl⟩
  · rw [if_neg hw]
    unfold nzl
    rw [if_neg (lN_ne0 g1 (by omega))]
    exact ⟨_, rfl, rfl⟩
theorem fr_0 {a : Nat} (w : Int32) : F_X2_told (lN a) (lN 0) w = F_X11_no (-3) := by
  unfold F_X2_told F_X2_commonOf
  simp only [lt]
  rw [L_X2_commonOf_9, if_neg (by decide), if_pos (by decide), Option.bind_some]
  simp only [jn]
  rw [if_pos (by decide)]
  rfl
-- the survey
def sco (M : zSt) (i : Nat) : Bool := decide (¬ zI M 4 < zA M 8 i ∧ (zA M 9 i = -1 ∨ ¬ zA M 9 i ≤ zI M 4))
def sp (M : zSt) (v : Int32) (i : Nat) : Bool := sco M i && decide (zA M 7 i = v)
theorem s_co {X M : zSt} {n i sf : Nat} (hi : i < n) (hn : n ≤ 40) (hsf : sf ≤ 999) (e5 : zI X 6 = nI sf) (e6 : zI M 4 = nI sf) (hb : ∀ i, i < n → ∃ a t : Nat, 1 ≤ a ∧ a ≤ 8 ∧ t ≤ 999 ∧ zA X 15 i = nI a ∧ zA M 7 i = nI a ∧ zA X 16 i = nI t ∧ zA M 8 i = nI t ∧ ((zA X 17 i = nI 1000 ∧ zA M 9 i = -1) ∨ ∃ d : Nat, d ≤ 999 ∧ zA X 17 i = nI d ∧ zA M 9 i = nI d)) : F_X7_counts X (nI i) = some (if sco M i then 1 else 0) := by
  obtain ⟨a, t, h1, h2, h3, x1, x2, x3, x4, x5⟩ := hb i hi
  unfold F_X7_counts
  simp only [ibd_nI (show i < 40 by omega) (show 40 < 2 ^ 31 by decide), nIN (show i < 2 ^ 31 by omega), sco, decide_eq_true_eq]
  rw [e5, e6, x3, x4]
  by_cases q : nI sf < nI t
  · rw [if_pos q, if_neg (fun z => z.1 q)]
  · rw [if_neg q]
    rcases x5 with ⟨y1, y2⟩ | ⟨d, y0, y1, y2⟩
    · rw [y1, y2, if_neg (nI_ge (show sf < 1000 by omega) (by decide)), if_pos ⟨q, Or.inl rfl⟩]
    · rw [y1, y2]
      by_cases q2 : nI d ≤ nI sf
      · rw [if_pos q2, if_neg (fun z => z.2.elim (fun z => nI_m1 (by omega) z) (fun z => z q2))]
      · rw [if_neg q2, if_pos ⟨q, Or.inr q2⟩]
theorem cN_s (p : Nat → Bool) (i : Nat) (h : p i = true) : nI (cN p i) + 1 = nI (cN p (i + 1)) := by
  show _ = nI (cN p i + if p i then 1 else 0)
  rw [if_pos h, nI_1]
theorem cN_k (p : Nat → Bool) (i : Nat) (h : p i = false) : cN p (i + 1) = cN p i := by
  show cN p i + (if p i then 1 else 0) = _
  rw [if_neg (by rw [h]; decide)]
  rfl
/-- how many said v; how many count: on both sides -/
theorem s_all {X M : zSt} (hR : zR X M) : ∃ n : Nat, n ≤ 40 ∧ zI X 4 = nI n ∧ zI M 2 = nI n ∧ F_X7_counting X = some (nI (cN (sco M) n)) ∧ F_X11_saidOf M 0 = some (nI (cN (sco M) n)) ∧ ∀ v : Int32, F_X7_saying X v = some (nI (cN (sp M v) n)) ∧ (v ≠ 0 → F_X11_saidOf M v = some (nI (cN (sp M v) n))) := by
  obtain ⟨-, -, ⟨n, now, sf, h1, h2, h3, e1, e2, e3, e4, e5, e6, hb⟩, -⟩ := hR
  have hco : ∀ i, i < n → F_X7_counts X (nI i) = some (if sco M i then 1 else 0) := fun i hi => s_co hi h1 h3 e5 e6 hb
  have heq : ∀ i, i < n → zA X 15 i = zA M 7 i := fun i hi => by
    obtain ⟨a, t, -, -, -, x1, x2, -⟩ := hb i hi
    rw [x1, x2]
  refine ⟨n, h1, e1, e2, ?_, ?_, fun v => ⟨?_, fun hv => ?_⟩⟩
  · unfold F_X7_counting
    simp only [lt]
    refine loopN (L := fun f (q : Int32 × Int32) => L_X7_counting_4 X (fun w => some w) f q.1 q.2) (st := fun i => (nI (cN (sco M) i), nI i)) n _ (fun f => ?_) (fun f i hi => ?_) 1000 0 (by omega) (by omega)
    · show L_X7_counting_4 X (fun w => some w) (f + 1) _ (nI n) = _
      rw [L_X7_counting_4, e1, if_pos Int32.le_rfl]
    · show L_X7_counting_4 X (fun w => some w) (f + 1) (nI (cN (sco M) i)) (nI i) = _
      rw [L_X7_counting_4, e1, if_neg (nI_ge hi (by omega)), hco i hi, Option.bind_some]
      simp only [lt]
      cases hc : sco M i with
      | true =>
        rw [if_pos rfl, if_neg i01, cN_s _ _ hc, nI_1]
      | false =>
        rw [if_pos (show (if false = true then (1 : Int32) else 0) = 0 by decide), nI_1]
        show _ = L_X7_counting_4 X _ f (nI (cN (sco M) (i + 1))) _
        rw [cN_k _ _ hc]
  · unfold F_X11_saidOf
    simp only [lt]
    refine loopN (L := fun f (q : Int32 × Int32) => L_X11_saidOf_4 M 0 (fun w => some w) f q.1 q.2) (st := fun i => (nI (cN (sco M) i), nI i)) n _ (fun f => ?_) (fun f i hi => ?_) 1000 0 (by omega) (by omega)
    · show L_X11_saidOf_4 M 0 (fun w => some w) (f + 1) _ (nI n) = _
      rw [L_X11_saidOf_4, e2, if_pos Int32.le_rfl]
    · show L_X11_saidOf_4 M 0 (fun w => some w) (f + 1) (nI (cN (sco M) i)) (nI i) = L_X11_saidOf_4 M 0 (fun w => some w) f (nI (cN (sco M) (i + 1))) (nI (i + 1))
      rw [L_X11_saidOf_4, e2, if_neg (nI_ge hi (by omega))]
      simp only [ibd_nI (show i < 40 by omega) (show 40 < 2 ^ 31 by decide), nIN (show i < 2 ^ 31 by omega), jn, lt, if_true, nI_1, i01, if_false]
      have hz : nI (cN (sco M) i) + 0 = nI (cN (sco M) i) := nI_add _ 0
      rw [hz]
      by_cases q : zI M 4 < zA M 8 i
      · have hc : sco M i = false := by simp [sco, q]
        rw [if_pos q, cN_k _ _ hc]
      · rw [if_neg q]
        by_cases q2 : zA M 9 i = -1
        · have hc : sco M i = true := by simp [sco, q, q2]
          rw [if_pos q2, ← cN_s _ _ hc, nI_1]
        · rw [if_neg q2]
          by_cases q3 : zA M 9 i ≤ zI M 4
          · have hc : sco M i = false := by simp [sco, q, q2, q3]
            rw [if_pos q3, cN_k _ _ hc]
          · have hc : sco M i = true := by simp [sco, q, q2, q3]
            rw [if_neg q3, ← cN_s _ _ hc, nI_1]
  · unfold F_X7_saying
    simp only [lt]
    refine loopN (L := fun f (q : Int32 × Int32) => L_X7_saying_4 X v (fun w => some w) f q.1 q.2) (st := fun i => (nI (cN (sp M v) i), nI i)) n _ (fun f => ?_) (fun f i hi => ?_) 1000 0 (by omega) (by omega)
    · show L_X7_saying_4 X v (fun w => some w) (f + 1) _ (nI n) = _
      rw [L_X7_saying_4, e1, if_pos Int32.le_rfl]
    · show L_X7_saying_4 X v (fun w => some w) (f + 1) (nI (cN (sp M v) i)) (nI i) = L_X7_saying_4 X v (fun w => some w) f (nI (cN (sp M v) (i + 1))) (nI (i + 1))
      rw [L_X7_saying_4, e1, if_neg (nI_ge hi (by omega)), ibd_nI (show i < 40 by omega) (by decide), nIN (by omega), heq i hi]
      simp only [lt, nI_1]
      by_cases q : zA M 7 i = v
      · rw [if_pos q, hco i hi, Option.bind_some]
        cases hc : sco M i with
        | true =>
          have hp : sp M v i = true := by simp [sp, hc, q]
          rw [if_pos rfl, if_neg i01, ← cN_s _ _ hp, nI_1]
        | false =>
          have hp : sp M v i = false := by simp [sp, hc]
          rw [if_pos (show (if false = true then (1 : Int32) else 0) = 0 by decide), cN_k _ _ hp]
      · have hp : sp M v i = false := by simp [sp, q]
        rw [if_neg q, cN_k _ _ hp]
  · unfold F_X11_saidOf
    simp only [lt]
    refine loopN (L := fun f (q : Int32 × Int32) => L_X11_saidOf_4 M v (fun w => some w) f q.1 q.2) (st := fun i => (nI (cN (sp M v) i), nI i)) n _ (fun f => ?_) (fun f i hi => ?_) 1000 0 (by omega) (by omega)
    · show L_X11_saidOf_4 M v (fun w => some w) (f + 1) _ (nI n) = _
      rw [L_X11_saidOf_4, e2, if_pos Int32.le_rfl]
    · show L_X11_saidOf_4 M v (fun w => some w) (f + 1) (nI (cN (sp M v) i)) (nI i) = L_X11_saidOf_4 M v (fun w => some w) f (nI (cN (sp M v) (i + 1))) (nI (i + 1))
      rw [L_X11_saidOf_4, e2, if_neg (nI_ge hi (by omega))]
      simp only [ibd_nI (show i < 40 by omega) (show 40 < 2 ^ 31 by decide), nIN (show i < 2 ^ 31 by omega), jn, lt, if_true, nI_1, i01, if_false, hv]
      have hz : nI (cN (sp M v) i) + 0 = nI (cN (sp M v) i) := nI_add _ 0
      rw [hz]
      have T : sco M i = true → (if zA M 7 i = v then L_X11_saidOf_4 M v (fun w => some w) f (nI (cN (sp M v) i + 1)) (nI (i + 1)) else L_X11_saidOf_4 M v (fun w => some w) f (nI (cN (sp M v) i)) (nI (i + 1))) = L_X11_saidOf_4 M v (fun w => some w) f (nI (cN (sp M v) (i + 1))) (nI (i + 1)) := by
        intro hc
        by_cases q : zA M 7 i = v
        · have hp : sp M v i = true := by simp [sp, hc, q]
          rw [if_pos q, ← cN_s _ _ hp, nI_1]
        · have hp : sp M v i = false := by simp [sp, q]
          rw [if_neg q, cN_k _ _ hp]
      by_cases q : zI M 4 < zA M 8 i
      · have hc : sp M v i = false := by simp [sp, sco, q]
        rw [if_pos q, cN_k _ _ hc]
      · rw [if_neg q]
        by_cases q2 : zA M 9 i = -1
        · rw [if_pos q2]
          exact T (by simp [sco, q, q2])
        · rw [if_neg q2]
          by_cases q3 : zA M 9 i ≤ zI M 4
          · have hc : sp M v i = false := by simp [sp, sco, q, q2, q3]
            rw [if_pos q3, cN_k _ _ hc]
          · rw [if_neg q3]
            exact T (by simp [sco, q, q2, q3])
theorem a_said : ag_said zR := by
  intro SX SM a1 hR
  unfold F_X10_said F_X11_said
  rw [p_out, p_in]
  by_cases h : (1 : Int32) ≤ a1 ∧ a1 ≤ 8
  · rw [if_pos h, if_pos h, Option.bind_some, Option.bind_some, if_pos rfl, if_neg i01]
    obtain ⟨n, -, -, -, -, -, hv⟩ := s_all hR
    have h0 : a1 ≠ 0 := by
      rintro rfl
      exact absurd h.1 (by decide)
    rw [(hv a1).1, (hv a1).2 h0]
    exact ⟨_, rfl, rfl⟩
  · rw [if_neg h, if_neg h, Option.bind_some, Option.bind_some, if_neg i01, if_pos rfl]
    exact ⟨_, rfl, rfl⟩
