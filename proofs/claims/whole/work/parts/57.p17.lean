-- the best group
theorem nI_and (a b : Nat) : nI a &&& nI b = nI (a &&& b) := by
  apply Int32.toBitVec_inj.mp
  rw [Int32.toBitVec_and]
  show BitVec.ofNat 32 a &&& BitVec.ofNat 32 b = BitVec.ofNat 32 (a &&& b)
  rw [BitVec.ofNat_and]
theorem bt_and (a b j : Nat) : bt (a &&& b) j = bt a j * bt b j := by
  unfold bt
  rw [Nat.testBit_and]
  cases a.testBit j <;> cases b.testBit j <;> rfl
def bw (h : Nat → Nat) (e p q : Nat) : Nat := bt e p * (bt (h p) q * (2 - bt e q))
def bu (h : Nat → Nat) (e p q : Nat) : Nat := bt (h p) q * max (bt e p) (bt e q)
def bE' (h : Nat → Nat) (e : Nat) : Nat := sN (fun p => sN (bu h e p) p) 8
theorem sN_tri (w : Nat → Nat → Nat) : ∀ n, sN (fun p => sN (fun q => w p q) n) n = sN (fun p => sN (fun q => w p q + w q p) p) n + sN (fun p => w p p) n
  | 0 => rfl
  | n + 1 => by
    have ih := sN_tri w n
    show sN (fun p => sN (fun q => w p q) n + w p n) n + (sN (w n) n + w n n) = sN (fun p => sN (fun q => w p q + w q p) p) n + sN (fun q => w n q + w q n) n + (sN (fun p => w p p) n + w n n)
    rw [sN_add, sN_add, ih]
    omega
theorem sN_2 (g : Nat → Nat) (n : Nat) : sN (fun i => 2 * g i) n = 2 * sN g n := by
  rw [Nat.mul_comm, ← sN_mul]
  exact sN_cong n (fun i _ => Nat.mul_comm _ _)
theorem bw_T {h : Nat → Nat} (y : gY h) (d : ∀ a, a < 8 → (h a).testBit a = false) (e : Nat) : sN (fun p => sN (fun q => bw h e p q) 8) 8 = 2 * bE' h e := by
  rw [sN_tri]
  have z : sN (fun p => bw h e p p) 8 = 0 := by
    have : sN (fun p => bw h e p p) 8 ≤ 8 * 0 := sN_le' _ 0 8 (fun p hp => by
      unfold bw
      rw [show bt (h p) p = 0 by unfold bt; rw [d p hp]; rfl]
      simp)
    omega
  rw [z, Nat.add_zero]
  unfold bE'
  rw [← sN_2]
  refine sN_cong 8 (fun p hp => ?_)
  show sN (fun q => bw h e p q + bw h e q p) p = 2 * sN (bu h e p) p
  rw [← sN_2]
  refine sN_cong p (fun q hq => ?_)
  show bw h e p q + bw h e q p = 2 * bu h e p q
  unfold bw bu
  rw [gY_b y (show q < 8 by omega) hp]
  rcases bt_01 e p with e1 | e1 <;> rcases bt_01 e q with e2 | e2 <;> rcases bt_01 (h p) q with e3 | e3 <;> rw [e1, e2, e3] <;> decide
theorem bw_p (h : Nat → Nat) (e p : Nat) : sN (fun q => bt (h p) q * (2 - bt e q)) 8 + on (h p &&& e) = 2 * on (h p) := by
  unfold on
  rw [← sN_2, ← sN_add]
  refine sN_cong 8 (fun q hq => ?_)
  show bt (h p) q * (2 - bt e q) + bt (h p &&& e) q = 2 * bt (h p) q
  rw [bt_and]
  rcases bt_01 e q with e2 | e2 <;> rcases bt_01 (h p) q with e3 | e3 <;> rw [e2, e3]
theorem sN_mulL (c : Nat) (g : Nat → Nat) (n : Nat) : sN (fun i => c * g i) n = c * sN g n := by
  rw [Nat.mul_comm, ← sN_mul]
  exact sN_cong n (fun i _ => Nat.mul_comm _ _)
theorem bE_le (h : Nat → Nat) (e : Nat) : bE' h e ≤ 8 * 8 := sN_le' _ 8 8 (fun p hp => by
  have := sN_le' (bu h e p) 1 p (fun q _ => by
    unfold bu
    have := bt_le e p
    have := bt_le e q
    have := Nat.mul_le_mul (bt_le (h p) q) (show max (bt e p) (bt e q) ≤ 1 by omega)
    omega)
  omega)
theorem z_fs {X M : zSt} {h : Nat → Nat} (g : gH X M h) (y : gY h) (d : ∀ a, a < 8 → (h a).testBit a = false) {e : Nat} (he : e < 256) : F_X0_friendshipsOf X (nI e) = some (nI (bE' h e)) := by
  refine (F_X0_friendshipsOf.eq_1 X (nI e)).trans ?_
  refine (lt_eq _ _).trans ?_
  refine (lt_eq _ _).trans ?_
  refine loopN (L := fun f (q : Int32 × Int32) => L_X0_friendshipsOf_4 X (nI e) (fun w1 => nz 2 (some (w1 / 2))) f q.1 q.2) (st := fun i => (nI (sN (fun p => sN (fun q => bw h e p q) 8) i), nI i)) 8 _ (fun f => ?_) (fun f i hi => ?_) 1000 0 (by omega) (by omega)
  · show L_X0_friendshipsOf_4 X (nI e) (fun w1 => nz 2 (some (w1 / 2))) (f + 1) (nI (sN (fun p => sN (fun q => bw h e p q) 8) 8)) (nI 8) = _
    have := bE_le h e
    rw [L_X0_friendshipsOf_4, if_pos (by decide), bw_T y d]
    unfold nz
    rw [if_neg (by decide), show (2 : Int32) = nI 2 from rfl, pk_div (by omega) (by omega) (by omega), Nat.mul_div_cancel_left _ (by omega)]
  · show L_X0_friendshipsOf_4 X (nI e) (fun w1 => nz 2 (some (w1 / 2))) (f + 1) (nI (sN (fun p => sN (fun q => bw h e p q) 8) i)) (nI i) = L_X0_friendshipsOf_4 X (nI e) (fun w1 => nz 2 (some (w1 / 2))) f (nI (sN (fun p => sN (fun q => bw h e p q) 8) i + sN (fun q => bw h e i q) 8)) (nI (i + 1))
    rw [L_X0_friendshipsOf_4, if_neg (show ¬ (8 : Int32) ≤ nI i from nI_ge (b := 8) hi (by decide)), o_bitU he hi]
    have eb : sN (fun q => bw h e i q) 8 = bt e i * sN (fun q => bt (h i) q * (2 - bt e q)) 8 := sN_mulL (bt e i) (fun q => bt (h i) q * (2 - bt e q)) 8
    rw [eb]
    rcases bt_01 e i with e1 | e1
    · rw [e1, if_pos nI_0, Nat.zero_mul, Nat.add_zero (sN (fun p => sN (fun q => bw h e p q) 8) i)]
      simp only [lt, nI_1]
    · have l := Nat.and_le_left (n := h i) (m := e)
      have l2 := (g i hi).1
      have p := bw_p h e i
      rw [e1, if_neg (by decide), u_of g hi, Option.bind_some, ibd_nI hi (by omega), nIN (by omega), (g i hi).2.1, nI_and, o_cnt (by omega), Option.bind_some]
      simp only [lt, nI_1]
      rw [show (2 : Int32) = nI 2 from rfl, pk_mul, pk_sub (by omega), nI_add, Nat.one_mul, show 2 * on (h i) - on (h i &&& e) = sN (fun q => bt (h i) q * (2 - bt e q)) 8 by omega]
theorem z_in {X M : zSt} {h : Nat → Nat} (g : gH X M h) {e p c : Nat} (he : e < 256) (hp : p < 8) (a1 a2 v3 v4 : Int32) (k : Int32 → Option Int32) : L_X11_bestNow_32 M a1 a2 v3 v4 (nI e) (nI p) k 1000 (nI c) 0 = k (nI (c + sN (bu h e p) p)) := by
  refine loopN (L := fun f (q : Int32 × Int32) => L_X11_bestNow_32 M a1 a2 v3 v4 (nI e) (nI p) k f q.1 q.2) (st := fun i => (nI (c + sN (bu h e p) i), nI i)) p _ (fun f => ?_) (fun f i hi => ?_) 1000 0 (by omega) (by omega)
  · show L_X11_bestNow_32 M a1 a2 v3 v4 (nI e) (nI p) k (f + 1) _ (nI p) = _
    rw [L_X11_bestNow_32, if_pos (nI_le (Nat.le_refl p) (by omega))]
  · show L_X11_bestNow_32 M a1 a2 v3 v4 (nI e) (nI p) k (f + 1) (nI (c + sN (bu h e p) i)) (nI i) = L_X11_bestNow_32 M a1 a2 v3 v4 (nI e) (nI p) k f (nI (c + (sN (bu h e p) i + bu h e p i))) (nI (i + 1))
    rw [L_X11_bestNow_32, if_neg (nI_ge hi (by omega)), ibd_nI hp (by omega), nIN (by omega), (g p hp).2.2, o_has (g p hp).1 (by omega), o_has he (by omega), o_has he (by omega), Option.bind_some, Option.bind_some, Option.bind_some, ← Nat.add_assoc]
    simp only [lt, nI_1, Int32.add_zero]
    unfold bu
    rcases bt_01 (h p) i with e1 | e1
    · rw [e1, if_pos nI_0, Nat.zero_mul]
      rfl
    · rw [e1, if_neg (show ¬ nI 1 = 0 by decide), Nat.one_mul]
      rcases bt_01 e p with e2 | e2
      · rcases bt_01 e i with e3 | e3
        · rw [e2, e3, if_pos nI_0, if_pos nI_0]
          rfl
        · rw [e2, e3, if_pos nI_0, if_neg (show ¬ nI 1 = 0 by decide)]
          rfl
      · rw [e2, if_neg (show ¬ nI 1 = 0 by decide), show max 1 (bt e i) = 1 by have := bt_le e i; omega]
theorem z_out {X M : zSt} {h : Nat → Nat} (g : gH X M h) {e : Nat} (he : e < 256) (a1 a2 v3 v4 : Int32) (k : Int32 → Option Int32) : L_X11_bestNow_22 M a1 a2 v3 v4 (nI e) k 1000 0 0 = k (nI (bE' h e)) := by
  refine loopN (L := fun f (q : Int32 × Int32) => L_X11_bestNow_22 M a1 a2 v3 v4 (nI e) k f q.1 q.2) (st := fun i => (nI (sN (fun p => sN (bu h e p) p) i), nI i)) 8 _ (fun f => ?_) (fun f i hi => ?_) 1000 0 (by omega) (by omega)
  · show L_X11_bestNow_22 M a1 a2 v3 v4 (nI e) k (f + 1) (nI (sN (fun p => sN (bu h e p) p) 8)) (nI 8) = _
    rw [L_X11_bestNow_22, if_pos (by decide)]
    unfold bE'
    rfl
  · show L_X11_bestNow_22 M a1 a2 v3 v4 (nI e) k (f + 1) (nI (sN (fun p => sN (bu h e p) p) i)) (nI i) = L_X11_bestNow_22 M a1 a2 v3 v4 (nI e) k f (nI (sN (fun p => sN (bu h e p) p) i + sN (bu h e i) i)) (nI (i + 1))
    rw [L_X11_bestNow_22, if_neg (show ¬ (8 : Int32) ≤ nI i from nI_ge (b := 8) hi (by decide))]
    refine (lt_eq _ _).trans ?_
    rw [z_in g he hi]
    simp only [lt, nI_1]
def bs (h : Nat → Nat) (a : Nat) : Nat → Option Nat
  | 0 => none
  | i + 1 => if on i = a then (match bs h a i with
    | none => some i
    | some g => if bE' h i ≤ bE' h g then some g else some i) else bs h a i
def bs1 : Option Nat → Int32
  | none => 0
  | some g => nI g
def bs2 (h : Nat → Nat) : Option Nat → Int32
  | none => -1
  | some g => nI (bE' h g)
theorem bs_lt {h : Nat → Nat} {a g : Nat} : ∀ i, bs h a i = some g → g < i
  | 0, z => by simp [bs] at z
  | i + 1, z => by
    unfold bs at z
    by_cases q : on i = a
    · rw [if_pos q] at z
      cases c : bs h a i with
      | none =>
        rw [c] at z
        have := Option.some.inj z
        omega
      | some w =>
        rw [c] at z
        have := bs_lt i c
        dsimp only at z
        by_cases q2 : bE' h i ≤ bE' h w
        · rw [if_pos q2] at z
          have := Option.some.inj z
          omega
        · rw [if_neg q2] at z
          have := Option.some.inj z
          omega
    · rw [if_neg q] at z
      have := bs_lt i z
      omega
theorem bs_is {h : Nat → Nat} {a j : Nat} (hj : on j = a) : ∀ i, j < i → ∃ g, bs h a i = some g
  | 0, z => by omega
  | i + 1, z => by
    unfold bs
    by_cases q : on i = a
    · rw [if_pos q]
      cases bs h a i with
      | none => exact ⟨_, rfl⟩
      | some w =>
        dsimp only
        split
        · exact ⟨_, rfl⟩
        · exact ⟨_, rfl⟩
    · rw [if_neg q]
      refine bs_is hj i ?_
      have : j ≠ i := fun e => q (by rw [← e]; exact hj)
      omega
theorem on_a : ∀ a : Fin 9, on (2 ^ (a : Nat) - 1) = a := by decide +kernel
theorem z_step {h : Nat → Nat} {a i : Nat} : (on i = a → nI (bE' h i) ≤ bs2 h (bs h a i) → bs h a (i + 1) = bs h a i) ∧ (on i = a → ¬ nI (bE' h i) ≤ bs2 h (bs h a i) → bs h a (i + 1) = some i) ∧ (¬ on i = a → bs h a (i + 1) = bs h a i) := by
  have b := bE_le h i
  refine ⟨fun q z => ?_, fun q z => ?_, fun q => ?_⟩
  · show (if on i = a then _ else _) = _
    rw [if_pos q]
    cases c : bs h a i with
    | none =>
      rw [c] at z
      have z : nI (bE' h i) ≤ -1 := z
      rw [Int32.le_iff_toInt_le, nI_toInt (by omega)] at z
      have : (-1 : Int32).toInt = -1 := by decide
      omega
    | some w =>
      rw [c] at z
      have b2 := bE_le h w
      have z : nI (bE' h i) ≤ nI (bE' h w) := z
      dsimp only
      rw [if_pos ((nI_leI (by omega) (by omega)).mp z)]
  · show (if on i = a then _ else _) = _
    rw [if_pos q]
    cases c : bs h a i with
    | none => rfl
    | some w =>
      rw [c] at z
      have b2 := bE_le h w
      have z : ¬ nI (bE' h i) ≤ nI (bE' h w) := z
      dsimp only
      rw [if_neg (fun y => z ((nI_leI (by omega) (by omega)).mpr y))]
  · show (if on i = a then _ else _) = _
    rw [if_neg q]
theorem z_best {X M : zSt} {h : Nat → Nat} (g : gH X M h) (y : gY h) (d : ∀ a, a < 8 → (h a).testBit a = false) {a : Nat} (h1 : 1 ≤ a) (h8 : a ≤ 8) : ∃ e : Nat, e < 256 ∧ F_X0_bestGroup X (nI a) = some (nI e) ∧ ∀ a2 : Int32, F_X11_bestNow M (nI a) a2 = if a2 = 0 then some (nI e) else some (nI (bE' h e)) := by
  have ex := on_a ⟨a, by omega⟩
  have pw : 2 ^ a ≤ 2 ^ 8 := Nat.pow_le_pow_right (by omega) h8
  have pw0 : 0 < 2 ^ a := Nat.two_pow_pos a
  obtain ⟨e, he⟩ := bs_is (h := h) ex 256 (by dsimp only; omega)
  dsimp only at he
  have e256 := bs_lt 256 he
  have b0 : bs h a 1 = none := by
    show (if on 0 = a then _ else _) = _
    rw [if_neg (show ¬ on 0 = a by rw [show on 0 = 0 by decide]; omega)]
    rfl
  refine ⟨e, e256, ?_, fun a2 => ?_⟩
  · refine (F_X0_bestGroup.eq_1 X (nI a)).trans ?_
    refine (lt_eq _ _).trans ?_
    refine (lt_eq _ _).trans ?_
    refine (lt_eq _ _).trans ?_
    have z := loopN (L := fun f (q : Int32 × Int32 × Int32) => L_X0_bestGroup_7 X (nI a) (fun w => some w) f q.1 q.2.1 q.2.2) (st := fun i => (bs1 (bs h a i), bs2 h (bs h a i), nI i)) 256 (some (nI e)) (fun f => ?_) (fun f i hi => ?_) 1000 1 (by omega) (by omega)
    · dsimp only at z
      rw [b0] at z
      exact z
    · show L_X0_bestGroup_7 X (nI a) (fun w => some w) (f + 1) (bs1 (bs h a 256)) _ (nI 256) = _
      rw [L_X0_bestGroup_7, if_pos (by decide), he]
      rfl
    · show L_X0_bestGroup_7 X (nI a) (fun w => some w) (f + 1) (bs1 (bs h a i)) (bs2 h (bs h a i)) (nI i) = L_X0_bestGroup_7 X (nI a) (fun w => some w) f (bs1 (bs h a (i + 1))) (bs2 h (bs h a (i + 1))) (nI (i + 1))
      have o8 := on_le i
      rw [L_X0_bestGroup_7, if_neg (show ¬ (256 : Int32) ≤ nI i from nI_ge (b := 256) hi (by decide)), o_cnt hi, Option.bind_some, z_fs g y d hi]
      simp only [lt, nI_1, Option.bind_some]
      by_cases q : on i = a
      · rw [if_pos (by rw [q])]
        by_cases q2 : nI (bE' h i) ≤ bs2 h (bs h a i)
        · rw [if_pos q2, z_step.1 q q2]
        · rw [if_neg q2, z_step.2.1 q q2]
          rfl
      · rw [if_neg (nI_ne q (by omega) (by omega)), z_step.2.2 q]
  · refine (F_X11_bestNow.eq_1 M (nI a) a2).trans ?_
    refine (lt_eq _ _).trans ?_
    refine (lt_eq _ _).trans ?_
    refine (lt_eq _ _).trans ?_
    refine loopN (L := fun f (q : Int32 × Int32 × Int32) => L_X11_bestNow_8 M (nI a) a2 (fun w3 w4 => if a2 = 0 then some w3 else some w4) f q.1 q.2.1 q.2.2) (st := fun i => (bs1 (bs h a i), bs2 h (bs h a i), nI i)) 256 _ (fun f => ?_) (fun f i hi => ?_) 1000 0 (by omega) (by omega)
    · show L_X11_bestNow_8 M (nI a) a2 (fun w3 w4 => if a2 = 0 then some w3 else some w4) (f + 1) (bs1 (bs h a 256)) (bs2 h (bs h a 256)) (nI 256) = _
      rw [L_X11_bestNow_8, if_pos (by decide), he]
      rfl
    · show L_X11_bestNow_8 M (nI a) a2 (fun w3 w4 => if a2 = 0 then some w3 else some w4) (f + 1) (bs1 (bs h a i)) (bs2 h (bs h a i)) (nI i) = L_X11_bestNow_8 M (nI a) a2 (fun w3 w4 => if a2 = 0 then some w3 else some w4) f (bs1 (bs h a (i + 1))) (bs2 h (bs h a (i + 1))) (nI (i + 1))
      have o8 := on_le i
      rw [L_X11_bestNow_8, if_neg (show ¬ (256 : Int32) ≤ nI i from nI_ge (b := 256) hi (by decide))]
      refine (lt_eq _ _).trans ?_
      refine (lt_eq _ _).trans ?_
      rw [z_out g hi, o_ones hi, Option.bind_some]
      simp only [lt, nI_1]
      by_cases q : on i = a
      · rw [if_pos (by rw [q])]
        by_cases q2 : nI (bE' h i) ≤ bs2 h (bs h a i)
        · rw [if_pos q2, z_step.1 q q2]
        · rw [if_neg q2, z_step.2.1 q q2]
          rfl
      · rw [if_neg (nI_ne q (by omega) (by omega)), z_step.2.2 q]
theorem z_bst {X M : zSt} (hR : zR X M) {a : Nat} (h1 : 1 ≤ a) (h8 : a ≤ 8) {w : Int32} (hw : (0 : Int32) ≤ w ∧ w ≤ 1) : ∃ r, F_X10_best X (nI a) w = some r ∧ F_X11_bestNow M (nI a) w = some r := by
  obtain ⟨h, g, y, d⟩ := hR.2.2.2.2.2.1
  obtain ⟨e, e256, z1, z2⟩ := z_best g y d h1 h8
  have hr : (1 : Int32) ≤ nI a ∧ nI a ≤ 8 := rng' (a := 1) (b := 8) h1 h8 (by decide)
  unfold F_X10_best
  rw [p_out, if_pos hr, Option.bind_some, if_pos rfl, p_out, if_pos hw, Option.bind_some, if_pos rfl, z1, Option.bind_some, z2]
  simp only [lt]
  rw [z_fs g y d e256]
  by_cases q : w = 0
  · rw [if_pos q, if_pos q]
    exact ⟨_, rfl, rfl⟩
  · rw [if_neg q, if_neg q]
    exact ⟨_, rfl, rfl⟩
theorem a_best : ag_best zR := by
  intro SX SM a1 a2 hR
  by_cases h2 : (1 : Int32) ≤ a1 ∧ a1 ≤ 8
  · by_cases h3 : (0 : Int32) ≤ a2 ∧ a2 ≤ 1
    · obtain ⟨k, hk1, hk, rfl⟩ := rng 1 8 rfl rfl (by decide) (by decide) h2
      obtain ⟨r, r1, r2⟩ := z_bst hR hk1 hk h3
      refine ⟨r, r1, ?_⟩
      unfold F_X11_best
      rw [p_in, if_pos h2, Option.bind_some, if_neg i01, p_in, if_pos h3, Option.bind_some, if_neg i01, r2]
      rfl
    · unfold F_X10_best F_X11_best
      rw [p_out, p_in, if_pos h2, if_pos h2, Option.bind_some, Option.bind_some, if_pos rfl, if_neg i01, p_out, p_in, if_neg h3, if_neg h3]
      exact ⟨_, rfl, rfl⟩
  · unfold F_X10_best F_X11_best
    rw [p_out, p_in, if_neg h2, if_neg h2]
    exact ⟨_, rfl, rfl⟩
