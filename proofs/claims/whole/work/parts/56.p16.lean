-- who is picked
theorem jn_eq {α β : Type} (x : α) (k : α → β) : jn x k = k x := rfl
def gY (h : Nat → Nat) : Prop := ∀ a b, a < 8 → b < 8 → (h a).testBit b = (h b).testBit a
theorem gY_b {h : Nat → Nat} (y : gY h) {a b : Nat} (ha : a < 8) (hb : b < 8) : bt (h a) b = bt (h b) a := by unfold bt; rw [y a b ha hb]
theorem on_pos {v a : Nat} (ha : a < 8) (e : bt v a = 1) : 0 < on v := by
  by_cases q : on v = 0
  · have := sN_0 8 q a ha
    omega
  · omega
def pS (h : Nat → Nat) (a : Nat) : Nat → Nat := sN (fun q => bt (h q) a * (420 / on (h q)))
def pk (h : Nat → Nat) (a : Nat) : Nat := (if h a = 0 then 420 else 0) + pS h a 8
theorem pS_le (h : Nat → Nat) (a : Nat) (m : Nat) : pS h a m ≤ m * 420 := sN_le' _ 420 m (fun q _ => by
  have := Nat.mul_le_mul (bt_le (h q) a) (Nat.div_le_self 420 (on (h q)))
  omega)
theorem pk_le' (h : Nat → Nat) (a : Nat) : pk h a ≤ 9 * 420 := by
  have := pS_le h a 8
  unfold pk
  split <;> omega
theorem pS_s (h : Nat → Nat) (a m : Nat) : pS h a (m + 1) = pS h a m + bt (h m) a * (420 / on (h m)) := rfl
theorem v_x {X M : zSt} {h : Nat → Nat} (g : gH X M h) (y : gY h) {a : Nat} (ha : a < 8) : F_X0_pickedParts X (nI a) = some (nI (pk h a)) := by
  refine (F_X0_pickedParts.eq_1 X (nI a)).trans ?_
  rw [u_of g ha, Option.bind_some]
  have o0 := y_on0 ⟨h a, (g a ha).1⟩
  dsimp only at o0
  by_cases z : h a = 0
  · rw [if_pos ((nI_eq0 (by have := on_le (h a); omega)).mpr (o0.mpr z))]
    unfold pk
    rw [if_pos z]
    have : pS h a 8 ≤ 8 * 0 := sN_le' _ 0 8 (fun q hq => by
      rw [gY_b y hq ha, z]
      unfold bt
      rw [Nat.zero_testBit]
      simp)
    rw [show pS h a 8 = 0 by omega]
    rfl
  · rw [if_neg (fun q => z (o0.mp ((nI_eq0 (by have := on_le (h a); omega)).mp q)))]
    unfold pk
    rw [if_neg z, Nat.zero_add]
    refine (lt_eq _ _).trans ?_
    refine (lt_eq _ _).trans ?_
    refine loopN (L := fun f (q : Int32 × Int32) => L_X0_pickedParts_16 X (nI a) (fun w => some w) f q.1 q.2) (st := fun i => (nI (pS h a i), nI i)) 8 _ (fun f => ?_) (fun f i hi => ?_) 1000 0 (by omega) (by omega)
    · show L_X0_pickedParts_16 X (nI a) (fun w => some w) (f + 1) _ (nI 8) = _
      rw [L_X0_pickedParts_16, if_pos (by decide)]
    · show L_X0_pickedParts_16 X (nI a) (fun w => some w) (f + 1) (nI (pS h a i)) (nI i) = L_X0_pickedParts_16 X (nI a) (fun w => some w) f (nI (pS h a (i + 1))) (nI (i + 1))
      rw [L_X0_pickedParts_16, if_neg (show ¬ (8 : Int32) ≤ nI i from nI_ge (b := 8) hi (by decide)), u_is g ha hi, u_of g hi, Option.bind_some, gY_b y ha hi, pS_s]
      simp only [lt, nI_1, Option.bind_some]
      rcases bt_01 (h i) a with e | e
      · rw [e, if_pos nI_0, Nat.zero_mul, Nat.add_zero (pS h a i)]
      · have p := on_pos ha e
        have p8 := on_le (h i)
        unfold nz
        rw [e, if_neg (by decide), if_neg (nI_nle p (by omega)), if_neg (nI_ne0 p (by omega)), show (420 : Int32) = nI 420 from rfl, pk_div (by omega) p (by omega), nI_add, Nat.one_mul]
theorem v_m {X M : zSt} {h : Nat → Nat} (g : gH X M h) {a : Nat} (ha : a < 8) : F_X11_pickedParts M (nI a) = some (nI (pk h a)) := by
  refine (F_X11_pickedParts.eq_1 M (nI a)).trans ?_
  have L : ∀ c : Nat, L_X11_pickedParts_19 M (nI a) (fun w => some w) 1000 (nI c) 0 = some (nI (c + pS h a 8)) := fun c => by
    refine loopN (L := fun f (q : Int32 × Int32) => L_X11_pickedParts_19 M (nI a) (fun w => some w) f q.1 q.2) (st := fun i => (nI (c + pS h a i), nI i)) 8 _ (fun f => ?_) (fun f i hi => ?_) 1000 0 (by omega) (by omega)
    · show L_X11_pickedParts_19 M (nI a) (fun w => some w) (f + 1) _ (nI 8) = _
      rw [L_X11_pickedParts_19, if_pos (by decide)]
    · show L_X11_pickedParts_19 M (nI a) (fun w => some w) (f + 1) (nI (c + pS h a i)) (nI i) = L_X11_pickedParts_19 M (nI a) (fun w => some w) f (nI (c + pS h a (i + 1))) (nI (i + 1))
      rw [L_X11_pickedParts_19, if_neg (show ¬ (8 : Int32) ≤ nI i from nI_ge (b := 8) hi (by decide)), ibd_nI hi (by omega), ibd_nI hi (by omega), nIN (by omega), u_ones g hi, (g i hi).2.2, o_has (g i hi).1 ha, Option.bind_some, Option.bind_some, pS_s, ← Nat.add_assoc]
      simp only [lt, nI_1]
      rcases bt_01 (h i) a with e | e
      · rw [e, if_pos nI_0, Nat.zero_mul, Nat.add_zero (c + pS h a i), Int32.add_zero]
      · have p := on_pos ha e
        have p8 := on_le (h i)
        unfold nz
        rw [e, if_neg (by decide), if_neg (nI_ne0 p (by omega)), show (420 : Int32) = nI 420 from rfl, pk_div (by omega) p (by omega), nI_add, Nat.one_mul]
  have b := (g a ha).1
  rw [ibd_nI ha (by omega), nIN (by omega), (g a ha).2.2]
  unfold pk
  refine (jn_eq _ _).trans ?_
  by_cases z : h a = 0
  · rw [if_pos z, if_pos ((nI_eq0 (by omega)).mpr z)]
    refine Eq.trans ?_ (L 420)
    refine (lt_eq _ _).trans ?_
    exact lt_eq _ _
  · rw [if_neg z, if_neg (fun q => z ((nI_eq0 (by omega)).mp q))]
    refine Eq.trans ?_ (L 0)
    refine (lt_eq _ _).trans ?_
    exact lt_eq _ _
theorem a_picked : ag_picked zR := by
  intro SX SM a1 a2 hR
  obtain ⟨h, g, y, -⟩ := hR.2.2.2.2.2.1
  by_cases h1 : (0 : Int32) ≤ a1 ∧ a1 ≤ 7
  · by_cases h2 : (0 : Int32) ≤ a2 ∧ a2 ≤ 1
    · obtain ⟨a, -, ha, rfl⟩ := rng 0 7 rfl rfl (by decide) (by decide) h1
      unfold F_X10_picked F_X11_picked
      rw [p_out, p_in, if_pos h1, if_pos h1, Option.bind_some, Option.bind_some]
      simp only [jn]
      rw [if_true, if_neg i01, p_out, p_in, if_pos h2, if_pos h2, Option.bind_some, Option.bind_some, if_pos rfl, if_neg i01, v_x g y (show a < 8 by omega), v_m g (show a < 8 by omega), Option.bind_some, Option.bind_some]
      have b := pk_le' h a
      rw [nI_l (by omega), show (3360 : Int64) = lN 3360 from rfl]
      obtain ⟨r, r1, r2⟩ := fr_eq (a := pk h a) (b := 3360) (by omega) (by omega) (by omega) a2
      rw [r1, r2]
      exact ⟨r, rfl, rfl⟩
    · unfold F_X10_picked F_X11_picked
      rw [p_out, p_in, if_pos h1, if_pos h1, Option.bind_some, Option.bind_some]
      simp only [jn]
      rw [if_true, if_neg i01, p_out, p_in, if_neg h2, if_neg h2]
      exact ⟨_, rfl, rfl⟩
  · unfold F_X10_picked F_X11_picked
    rw [p_out, p_in, if_neg h1, if_neg h1]
    exact ⟨_, rfl, rfl⟩
theorem v_fp {X M : zSt} {h : Nat → Nat} (g : gH X M h) (y : gY h) : F_X0_friendsOfPicked X = some (nI (sN (fun p => pk h p * on (h p)) 8)) := by
  refine (F_X0_friendsOfPicked.eq_1 X).trans ?_
  refine (lt_eq _ _).trans ?_
  refine (lt_eq _ _).trans ?_
  refine loopN (L := fun f (q : Int32 × Int32) => L_X0_friendsOfPicked_4 X (fun w => some w) f q.1 q.2) (st := fun i => (nI (sN (fun p => pk h p * on (h p)) i), nI i)) 8 _ (fun f => ?_) (fun f i hi => ?_) 1000 0 (by omega) (by omega)
  · show L_X0_friendsOfPicked_4 X (fun w => some w) (f + 1) _ (nI 8) = _
    rw [L_X0_friendsOfPicked_4, if_pos (by decide)]
  · show L_X0_friendsOfPicked_4 X (fun w => some w) (f + 1) (nI (sN (fun p => pk h p * on (h p)) i)) (nI i) = L_X0_friendsOfPicked_4 X (fun w => some w) f (nI (sN (fun p => pk h p * on (h p)) i + pk h i * on (h i))) (nI (i + 1))
    rw [L_X0_friendsOfPicked_4, if_neg (show ¬ (8 : Int32) ≤ nI i from nI_ge (b := 8) hi (by decide)), v_x g y hi, u_of g hi, Option.bind_some, Option.bind_some]
    simp only [lt, nI_1, nI_add, pk_mul]
theorem v_mn {X M : zSt} {h : Nat → Nat} (g : gH X M h) (a1 a2 : Int32) (k : Int32 → Int32 → Int32 → Option Int64) : L_X11_meanNow_11 M a1 a2 k 1000 0 0 0 0 = k (nI (sN (fun p => on (h p)) 8)) (nI (sN (fun p => on (h p) * on (h p)) 8)) (nI (sN (fun p => pk h p * on (h p)) 8)) := by
  refine loopN (L := fun f (q : Int32 × Int32 × Int32 × Int32) => L_X11_meanNow_11 M a1 a2 k f q.1 q.2.1 q.2.2.1 q.2.2.2) (st := fun i => (nI (sN (fun p => on (h p)) i), nI (sN (fun p => on (h p) * on (h p)) i), nI (sN (fun p => pk h p * on (h p)) i), nI i)) 8 _ (fun f => ?_) (fun f i hi => ?_) 1000 0 (by omega) (by omega)
  · show L_X11_meanNow_11 M a1 a2 k (f + 1) _ _ _ (nI 8) = _
    rw [L_X11_meanNow_11, if_pos (by decide)]
  · show L_X11_meanNow_11 M a1 a2 k (f + 1) (nI (sN (fun p => on (h p)) i)) (nI (sN (fun p => on (h p) * on (h p)) i)) (nI (sN (fun p => pk h p * on (h p)) i)) (nI i) = L_X11_meanNow_11 M a1 a2 k f (nI (sN (fun p => on (h p)) i + on (h i))) (nI (sN (fun p => on (h p) * on (h p)) i + on (h i) * on (h i))) (nI (sN (fun p => pk h p * on (h p)) i + pk h i * on (h i))) (nI (i + 1))
    rw [L_X11_meanNow_11, if_neg (show ¬ (8 : Int32) ≤ nI i from nI_ge (b := 8) hi (by decide)), ibd_nI hi (by omega), nIN (by omega), u_ones g hi, Option.bind_some]
    simp only [lt, nI_1, nI_add, pk_mul]
    rw [v_m g hi, Option.bind_some, pk_mul, nI_add, Nat.mul_comm (on (h i)) (pk h i)]
theorem sN_mul (g : Nat → Nat) (c : Nat) : ∀ m, sN (fun i => g i * c) m = sN g m * c
  | 0 => by simp [sN]
  | m + 1 => by
    unfold sN
    rw [sN_mul g c m, Nat.add_mul]
theorem sN_z : ∀ m, sN (fun _ => 0) m = 0
  | 0 => rfl
  | m + 1 => by
    unfold sN
    rw [sN_z m]
theorem sN_swap (w : Nat → Nat → Nat) (k : Nat) : ∀ m, sN (fun p => sN (fun q => w p q) k) m = sN (fun q => sN (fun p => w p q) m) k
  | 0 => by
    show 0 = sN (fun _ => 0) k
    rw [sN_z]
  | m + 1 => by
    show sN (fun p => sN (fun q => w p q) k) m + sN (fun q => w m q) k = sN (fun q => sN (fun p => w p q) m + w m q) k
    rw [sN_add, sN_swap w k m]
theorem v_ff {h : Nat → Nat} (y : gY h) : sN (fun p => sN (fun q => bt (h p) q * on (h q)) 8) 8 = sN (fun p => on (h p) * on (h p)) 8 := by
  rw [sN_swap]
  refine sN_cong 8 (fun q hq => ?_)
  show sN (fun p => bt (h p) q * on (h q)) 8 = _
  rw [sN_mul, sN_cong (g := fun p => bt (h p) q) (h := bt (h q)) 8 (fun p hp => gY_b y hp hq)]
  rfl
theorem v_mean {X M : zSt} (hR : zR X M) {k : Nat} (hk : k ≤ 2) {w : Int32} (hw : (0 : Int32) ≤ w ∧ w ≤ 1) : ∃ r, F_X10_mean X (nI k) w = some r ∧ F_X11_meanNow M (nI k) w = some r := by
  obtain ⟨h, g, y, -⟩ := hR.2.2.2.2.2.1
  have hr : (0 : Int32) ≤ nI k ∧ nI k ≤ 2 := rng' (a := 0) (b := 2) (by omega) hk (by decide)
  have b1 : sN (fun p => on (h p)) 8 ≤ 8 * 8 := sN_le' _ 8 8 (fun p _ => on_le _)
  have b2 : sN (fun p => on (h p) * on (h p)) 8 ≤ 8 * (8 * 8) := sN_le' _ (8 * 8) 8 (fun p _ => Nat.mul_le_mul (on_le _) (on_le _))
  have b3 : sN (fun p => pk h p * on (h p)) 8 ≤ 8 * (9 * 420 * 8) := sN_le' _ (9 * 420 * 8) 8 (fun p _ => Nat.mul_le_mul (pk_le' _ _) (on_le _))
  have e2 : F_X11_meanNow M (nI k) w = _ := (F_X11_meanNow.eq_1 M (nI k) w).trans ((lt_eq _ _).trans ((lt_eq _ _).trans ((lt_eq _ _).trans ((lt_eq _ _).trans (v_mn g (nI k) w _)))))
  rw [e2]
  unfold F_X10_mean
  rw [p_out, if_pos hr, Option.bind_some]
  simp only [jn]
  rw [if_true, p_out, if_pos hw, Option.bind_some, if_pos rfl, u_tell g, u_ff g, v_ff y, v_fp g y]
  simp only [Option.bind_some]
  have cases : k = 0 ∨ k = 1 ∨ k = 2 := by omega
  rcases cases with rfl | rfl | rfl
  · rw [if_pos nI_0, if_neg (show ¬ nI 0 = 1 by decide), if_pos nI_0, nI_l (by omega), show (8 : Int64) = lN 8 from rfl]
    obtain ⟨r, r1, r2⟩ := fr_eq (a := sN (fun p => on (h p)) 8) (b := 8) (by omega) (by omega) (by omega) w
    rw [r1, r2]
    exact ⟨r, rfl, rfl⟩
  · rw [if_neg (show ¬ nI 1 = 0 by decide), if_pos (show nI 1 = 1 by decide), if_pos (show nI 1 = 1 by decide)]
    exact fr_two (by omega) (by omega) (by omega) Iff.rfl w
  · rw [if_neg (show ¬ nI 2 = 0 by decide), if_neg (show ¬ nI 2 = 1 by decide), if_neg (show ¬ nI 2 = 1 by decide), if_neg (show ¬ nI 2 = 0 by decide), nI_l (n := sN (fun p => pk h p * on (h p)) 8) (by omega), show (3360 : Int64) = lN 3360 from rfl]
    obtain ⟨r, r1, r2⟩ := fr_eq (a := sN (fun p => pk h p * on (h p)) 8) (b := 3360) (by omega) (by omega) (by omega) w
    rw [r1, r2]
    exact ⟨r, rfl, rfl⟩
theorem a_mean : ag_mean zR := by
  intro SX SM a1 a2 hR
  by_cases h2 : (0 : Int32) ≤ a1 ∧ a1 ≤ 2
  · by_cases h3 : (0 : Int32) ≤ a2 ∧ a2 ≤ 1
    · obtain ⟨k, -, hk, rfl⟩ := rng 0 2 rfl rfl (by decide) (by decide) h2
      obtain ⟨r, r1, r2⟩ := v_mean hR hk h3
      refine ⟨r, r1, ?_⟩
      unfold F_X11_mean
      rw [p_in, if_pos h2, Option.bind_some]
      simp only [jn]
      rw [if_neg i01, p_in, if_pos h3, Option.bind_some, if_neg i01, r2]
      rfl
    · unfold F_X10_mean F_X11_mean
      rw [p_out, p_in, if_pos h2, if_pos h2, Option.bind_some, Option.bind_some]
      simp only [jn]
      rw [if_true, if_neg i01, p_out, p_in, if_neg h3, if_neg h3]
      exact ⟨_, rfl, rfl⟩
  · unfold F_X10_mean F_X11_mean
    rw [p_out, p_in, if_neg h2, if_neg h2]
    exact ⟨_, rfl, rfl⟩
