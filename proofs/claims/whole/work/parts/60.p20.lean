-- the stick
def lZ (z : Int) : Int64 := Int64.ofInt z
theorem lZ_add (a b : Int) : lZ a + lZ b = lZ (a + b) := (Int64.ofInt_add a b).symm
theorem lZ_neg (a : Int) : - lZ a = lZ (-a) := (Int64.ofInt_neg a).symm
theorem lZ_N (n : Nat) : lN n = lZ (n : Int) := rfl
theorem lZ_pw (a k : Nat) : lN (a ^ k) = lZ ((a : Int) ^ k) := by rw [lZ_N, Int.natCast_pow]
theorem lZ_pos {z : Int} (h : 0 ≤ z) : lZ z = lN z.toNat := by
  rw [lZ_N, Int.toNat_of_nonneg h]
theorem y_shl : ∀ n : Fin 9, (1 : Int32) <<< (nI n &&& 31) = nI (2 ^ (n : Nat)) := by decide +kernel
theorem sN_mon {g : Nat → Nat} {i : Nat} : ∀ n, i ≤ n → sN g i ≤ sN g n
  | 0, h => by
    obtain rfl : i = 0 := by omega
    exact Nat.le_refl _
  | n + 1, h => by
    by_cases e : i = n + 1
    · rw [e]; exact Nat.le_refl _
    · have := sN_mon (g := g) n (show i ≤ n by omega)
      show _ ≤ sN g n + g n
      omega
theorem ml_s (len : Nat → Nat) (m i : Nat) : ml len m (i + 1) = ml len m i + bt m i * len i := rfl
theorem m_with {X M : zSt} {n : Nat} {len : Nat → Nat} (g : gR X M n len) {m : Nat} (hm : m < 256) : F_X4_lengthWithout X (nI m) = some (nI (sN len n - ml len m n)) := by
  have g1 := g.1
  have e : ∀ i, sN (fun i => (1 - bt m i) * len i) i = sN len i - ml len m i := fun i => by
    have : sN (fun i => (1 - bt m i) * len i) i + ml len m i = sN len i := by
      unfold ml
      rw [← sN_add]
      refine sN_cong i (fun j _ => ?_)
      rcases bt_01 m j with e | e <;> rw [e] <;> omega
    omega
  rw [← e]
  refine (F_X4_lengthWithout.eq_1 X (nI m)).trans ?_
  refine (lt_eq _ _).trans ?_
  refine (lt_eq _ _).trans ?_
  refine loopN (L := fun f (q : Int32 × Int32) => L_X4_lengthWithout_4 X (nI m) (fun w => some w) f q.1 q.2) (st := fun i => (nI (sN (fun i => (1 - bt m i) * len i) i), nI i)) n _ (fun f => ?_) (fun f i hi => ?_) 1000 0 (by omega) (by omega)
  · show L_X4_lengthWithout_4 X (nI m) (fun w => some w) (f + 1) _ (nI n) = _
    rw [L_X4_lengthWithout_4, if_pos (by rw [g.2.1]; exact nI_le (Nat.le_refl n) (by omega))]
  · show L_X4_lengthWithout_4 X (nI m) (fun w => some w) (f + 1) (nI (sN (fun i => (1 - bt m i) * len i) i)) (nI i) = L_X4_lengthWithout_4 X (nI m) (fun w => some w) f (nI (sN (fun i => (1 - bt m i) * len i) i + (1 - bt m i) * len i)) (nI (i + 1))
    rw [L_X4_lengthWithout_4, if_neg (by rw [g.2.1]; exact nI_ge hi (by omega)), o_bitU hm (by omega), ibd_nI (by omega) (by omega), nIN (by omega), (g.2.2.2 i hi).2.2.1]
    simp only [lt, nI_1, nI_add]
    rcases bt_01 m i with e | e
    · rw [e, if_pos nI_0, Nat.sub_zero, Nat.one_mul]
    · rw [e, if_neg (show ¬ nI 1 = 0 by decide), Nat.sub_self, Nat.zero_mul]
      rfl
theorem m_par {α : Type} {m : Nat} (x y : Option α) : nz 2 (if nI (on m) - nI (on m) / 2 * 2 = 0 then x else y) = if on m % 2 = 0 then x else y := by
  have := on_le m
  unfold nz
  rw [if_neg (by decide), show (2 : Int32) = nI 2 from rfl, pk_rem (by omega) (by omega) (by omega)]
  by_cases q : on m % 2 = 0
  · rw [if_pos q, if_pos ((nI_eq0 (by omega)).mpr q)]
  · rw [if_neg q, if_neg (fun z => q ((nI_eq0 (by omega)).mp z))]
theorem m_tm (len : Nat → Nat) (n k T m : Nat) (x : Int) : (on m % 2 = 0 → lZ x + lN ((T - ml len m n) ^ k) = lZ (x + tm len n k T m)) ∧ (¬ on m % 2 = 0 → lZ x + - lN ((T - ml len m n) ^ k) = lZ (x + tm len n k T m)) := by
  unfold tm sI'
  rw [lZ_pw, lZ_neg, lZ_add, lZ_add]
  refine ⟨fun q => ?_, fun q => ?_⟩
  · rw [if_pos q, Int.one_mul]
  · rw [if_neg q, Int.neg_mul, Int.one_mul]
theorem m_allX {X M : zSt} {n : Nat} {len : Nat → Nat} (g : gR X M n len) {k : Nat} (hk : k ≤ 5) : F_X4_waysToHitAll X (nI k) = some (lZ (dS len n k (sN len n))) := by
  have g1 := g.1
  have T := k_T g
  have pw : 2 ^ n ≤ 2 ^ 8 := Nat.pow_le_pow_right (by omega) g1
  have sh := y_shl ⟨n, by omega⟩
  dsimp only at sh
  refine (F_X4_waysToHitAll.eq_1 X (nI k)).trans ?_
  refine (lt_eq _ _).trans ?_
  refine (lt_eq _ _).trans ?_
  refine loopN (L := fun f (q : Int64 × Int32) => L_X4_waysToHitAll_5 X (nI k) (fun w => some w) f q.1 q.2) (st := fun i => (lZ (sZ (tm len n k (sN len n)) i), nI i)) (2 ^ n) _ (fun f => ?_) (fun f i hi => ?_) 1000 0 (Nat.zero_le _) (by omega)
  · show L_X4_waysToHitAll_5 X (nI k) (fun w => some w) (f + 1) _ (nI (2 ^ n)) = _
    rw [L_X4_waysToHitAll_5, if_pos (by rw [g.2.1, sh]; exact nI_le (Nat.le_refl _) (by omega))]
    rfl
  · show L_X4_waysToHitAll_5 X (nI k) (fun w => some w) (f + 1) (lZ (sZ (tm len n k (sN len n)) i)) (nI i) = L_X4_waysToHitAll_5 X (nI k) (fun w => some w) f (lZ (sZ (tm len n k (sN len n)) i + tm len n k (sN len n) i)) (nI (i + 1))
    rw [L_X4_waysToHitAll_5, if_neg (by rw [g.2.1, sh]; exact nI_ge hi (by omega)), m_with g (by omega), Option.bind_some, nI_l (by omega), k_pX _ hk, Option.bind_some]
    simp only [lt, nI_1]
    rw [o_cnt (by omega), Option.bind_some, m_par]
    by_cases q : on i % 2 = 0
    · rw [if_pos q, (m_tm len n k _ i _).1 q]
    · rw [if_neg q, (m_tm len n k _ i _).2 q]
theorem m_inM {X M : zSt} {n : Nat} {len : Nat → Nat} (g : gR X M n len) {m : Nat} (hm : m < 256) (a2 a3 : Int32) (v5 : Int64) (kk : Int32 → Option Int64) : L_X11_stickNow_158 M a2 a3 (nI (sN len n)) v5 (nI m) kk 1000 (nI (sN len n)) 0 = kk (nI (sN len n - ml len m n)) := by
  have g1 := g.1
  refine loopN (L := fun f (q : Int32 × Int32) => L_X11_stickNow_158 M a2 a3 (nI (sN len n)) v5 (nI m) kk f q.1 q.2) (st := fun i => (nI (sN len n - ml len m i), nI i)) n _ (fun f => ?_) (fun f i hi => ?_) 1000 0 (by omega) (by omega)
  · show L_X11_stickNow_158 M a2 a3 (nI (sN len n)) v5 (nI m) kk (f + 1) _ (nI n) = _
    rw [L_X11_stickNow_158, if_pos (by rw [g.2.2.1]; exact nI_le (Nat.le_refl n) (by omega))]
  · show L_X11_stickNow_158 M a2 a3 (nI (sN len n)) v5 (nI m) kk (f + 1) (nI (sN len n - ml len m i)) (nI i) = L_X11_stickNow_158 M a2 a3 (nI (sN len n)) v5 (nI m) kk f (nI (sN len n - ml len m (i + 1))) (nI (i + 1))
    rw [L_X11_stickNow_158, if_neg (by rw [g.2.2.1]; exact nI_ge hi (by omega)), o_has hm (by omega), Option.bind_some, ibd_nI (by omega) (by omega), nIN (by omega), (g.2.2.2 i hi).2.2.2, ml_s]
    simp only [lt, nI_1, Int32.sub_zero]
    have l1 := ml_le (len := len) (m := m) (i + 1)
    have l2 := sN_mon (g := len) n (show i + 1 ≤ n by omega)
    rw [ml_s] at l1
    rcases bt_01 m i with e | e
    · rw [e, if_pos nI_0, Nat.zero_mul]
      rfl
    · rw [e, Nat.one_mul] at l1
      rw [e, if_neg (show ¬ nI 1 = 0 by decide), Nat.one_mul, pk_sub (by omega), Nat.sub_sub]
theorem m_allM {X M : zSt} {n : Nat} {len : Nat → Nat} (g : gR X M n len) {k : Nat} (hk : k ≤ 5) (a3 : Int32) (kk : Int64 → Option Int64) : L_X11_stickNow_140 M (nI k) a3 (nI (sN len n)) kk 1000 0 0 = kk (lZ (dS len n k (sN len n))) := by
  have g1 := g.1
  have T := k_T g
  have pw : 2 ^ n ≤ 2 ^ 8 := Nat.pow_le_pow_right (by omega) g1
  have sh := y_shl ⟨n, by omega⟩
  dsimp only at sh
  refine loopN (L := fun f (q : Int64 × Int32) => L_X11_stickNow_140 M (nI k) a3 (nI (sN len n)) kk f q.1 q.2) (st := fun i => (lZ (sZ (tm len n k (sN len n)) i), nI i)) (2 ^ n) _ (fun f => ?_) (fun f i hi => ?_) 1000 0 (Nat.zero_le _) (by omega)
  · show L_X11_stickNow_140 M (nI k) a3 (nI (sN len n)) kk (f + 1) _ (nI (2 ^ n)) = _
    rw [L_X11_stickNow_140, if_pos (by rw [g.2.2.1, sh]; exact nI_le (Nat.le_refl _) (by omega))]
    rfl
  · show L_X11_stickNow_140 M (nI k) a3 (nI (sN len n)) kk (f + 1) (lZ (sZ (tm len n k (sN len n)) i)) (nI i) = L_X11_stickNow_140 M (nI k) a3 (nI (sN len n)) kk f (lZ (sZ (tm len n k (sN len n)) i + tm len n k (sN len n) i)) (nI (i + 1))
    rw [L_X11_stickNow_140, if_neg (by rw [g.2.2.1, sh]; exact nI_ge hi (by omega))]
    refine (lt_eq _ _).trans ?_
    refine (lt_eq _ _).trans ?_
    rw [m_inM g (by omega), o_ones (by omega), Option.bind_some, m_par, k_pM (by omega) hk]
    simp only [lt, nI_1, Option.bind_some]
    by_cases q : on i % 2 = 0
    · rw [if_pos q, (m_tm len n k _ i _).1 q]
    · rw [if_neg q, (m_tm len n k _ i _).2 q]
theorem sZ_le {g : Nat → Int} {B : Nat} : ∀ m, (∀ i, i < m → g i ≤ B) → sZ g m ≤ ((m * B : Nat) : Int)
  | 0, _ => by simp [sZ]
  | m + 1, h => by
    have h1 := sZ_le m (fun i hi => h i (by omega))
    have h2 := h m (by omega)
    rw [Nat.succ_mul]
    show sZ g m + g m ≤ _
    omega
theorem m_dS {X M : zSt} {n : Nat} {len : Nat → Nat} (g : gR X M n len) {k : Nat} (hk : k ≤ 5) : ∃ A : Nat, A < 2 ^ 62 ∧ lZ (dS len n k (sN len n)) = lN A := by
  have g1 := g.1
  have T := k_T g
  have p := dS_pos len k n g1
  refine ⟨_, ?_, lZ_pos p⟩
  have b : dS len n k (sN len n) ≤ ((2 ^ n * 104857600000 : Nat) : Int) := sZ_le (2 ^ n) (fun i hi => by
    have h1 := k_pw (a := sN len n - ml len i n) (by omega) hk
    unfold tm sI'
    rw [← Int.natCast_pow]
    by_cases q : on i % 2 = 0
    · rw [if_pos q]; omega
    · rw [if_neg q]; omega)
  have pw : 2 ^ n ≤ 2 ^ 8 := Nat.pow_le_pow_right (by omega) g1
  have : 2 ^ n * 104857600000 ≤ 2 ^ 8 * 104857600000 := Nat.mul_le_mul_right _ pw
  omega
theorem m_hitsX {X M : zSt} {n : Nat} {len : Nat → Nat} (g : gR X M n len) {k : Nat} (hk : k ≤ 5) : F_X4_allWaysToHit X (nI k) = some (lN (sN (fun i => sN len n ^ k - (sN len n - len i) ^ k) n)) := by
  have g1 := g.1
  refine (F_X4_allWaysToHit.eq_1 X (nI k)).trans ?_
  refine (lt_eq _ _).trans ?_
  refine (lt_eq _ _).trans ?_
  refine loopN (L := fun f (q : Int64 × Int32) => L_X4_allWaysToHit_5 X (nI k) (fun w => some w) f q.1 q.2) (st := fun i => (lN (sN (fun i => sN len n ^ k - (sN len n - len i) ^ k) i), nI i)) n _ (fun f => ?_) (fun f i hi => ?_) 1000 0 (by omega) (by omega)
  · show L_X4_allWaysToHit_5 X (nI k) (fun w => some w) (f + 1) _ (nI n) = _
    rw [L_X4_allWaysToHit_5, if_pos (by rw [g.2.1]; exact nI_le (Nat.le_refl n) (by omega))]
  · show L_X4_allWaysToHit_5 X (nI k) (fun w => some w) (f + 1) (lN (sN (fun i => sN len n ^ k - (sN len n - len i) ^ k) i)) (nI i) = L_X4_allWaysToHit_5 X (nI k) (fun w => some w) f (lN (sN (fun i => sN len n ^ k - (sN len n - len i) ^ k) i + (sN len n ^ k - (sN len n - len i) ^ k))) (nI (i + 1))
    rw [L_X4_allWaysToHit_5, if_neg (by rw [g.2.1]; exact nI_ge hi (by omega)), k_hitX g hi hk, Option.bind_some]
    simp only [lt, nI_1, lN_add]
theorem m_hitsM {X M : zSt} {n : Nat} {len : Nat → Nat} (g : gR X M n len) {k : Nat} (hk : k ≤ 5) (a3 : Int32) (kk : Int64 → Option Int64) : L_X11_stickNow_83 M (nI k) a3 (nI (sN len n)) kk 1000 0 0 = kk (lN (sN (fun i => sN len n ^ k - (sN len n - len i) ^ k) n)) := by
  have g1 := g.1
  have T := k_T g
  refine loopN (L := fun f (q : Int64 × Int32) => L_X11_stickNow_83 M (nI k) a3 (nI (sN len n)) kk f q.1 q.2) (st := fun i => (lN (sN (fun i => sN len n ^ k - (sN len n - len i) ^ k) i), nI i)) n _ (fun f => ?_) (fun f i hi => ?_) 1000 0 (by omega) (by omega)
  · show L_X11_stickNow_83 M (nI k) a3 (nI (sN len n)) kk (f + 1) _ (nI n) = _
    rw [L_X11_stickNow_83, if_pos (by rw [g.2.2.1]; exact nI_le (Nat.le_refl n) (by omega))]
  · show L_X11_stickNow_83 M (nI k) a3 (nI (sN len n)) kk (f + 1) (lN (sN (fun i => sN len n ^ k - (sN len n - len i) ^ k) i)) (nI i) = L_X11_stickNow_83 M (nI k) a3 (nI (sN len n)) kk f (lN (sN (fun i => sN len n ^ k - (sN len n - len i) ^ k) i + (sN len n ^ k - (sN len n - len i) ^ k))) (nI (i + 1))
    rw [L_X11_stickNow_83, if_neg (by rw [g.2.2.1]; exact nI_ge hi (by omega)), k_pM (by omega) hk, Option.bind_some, ibd_nI (by omega) (by omega), nIN (by omega), (g.2.2.2 i hi).2.2.2, pk_sub (sN_ge n hi), k_pM (by omega) hk, Option.bind_some, lN_sub (Nat.pow_le_pow_left (by omega) k)]
    simp only [lt, nI_1, lN_add]
theorem m_sqX {X M : zSt} {n : Nat} {len : Nat → Nat} (g : gR X M n len) : F_X4_squares X = some (nI (sN (fun i => len i * len i) n)) := by
  have g1 := g.1
  refine (F_X4_squares.eq_1 X).trans ?_
  refine (lt_eq _ _).trans ?_
  refine (lt_eq _ _).trans ?_
  refine loopN (L := fun f (q : Int32 × Int32) => L_X4_squares_4 X (fun w => some w) f q.1 q.2) (st := fun i => (nI (sN (fun i => len i * len i) i), nI i)) n _ (fun f => ?_) (fun f i hi => ?_) 1000 0 (by omega) (by omega)
  · show L_X4_squares_4 X (fun w => some w) (f + 1) _ (nI n) = _
    rw [L_X4_squares_4, if_pos (by rw [g.2.1]; exact nI_le (Nat.le_refl n) (by omega))]
  · show L_X4_squares_4 X (fun w => some w) (f + 1) (nI (sN (fun i => len i * len i) i)) (nI i) = L_X4_squares_4 X (fun w => some w) f (nI (sN (fun i => len i * len i) i + len i * len i)) (nI (i + 1))
    rw [L_X4_squares_4, if_neg (by rw [g.2.1]; exact nI_ge hi (by omega)), ibd_nI (by omega) (by omega), ibd_nI (by omega) (by omega), nIN (by omega), (g.2.2.2 i hi).2.2.1, pk_mul]
    simp only [lt, nI_1, nI_add]
theorem m_sqM {X M : zSt} {n : Nat} {len : Nat → Nat} (g : gR X M n len) (a3 x4 : Int32) (kk : Int64 → Option Int64) : L_X11_stickNow_29 M a3 x4 kk 1000 0 0 = kk (lN (sN (fun i => len i * len i) n)) := by
  have g1 := g.1
  refine loopN (L := fun f (q : Int64 × Int32) => L_X11_stickNow_29 M a3 x4 kk f q.1 q.2) (st := fun i => (lN (sN (fun i => len i * len i) i), nI i)) n _ (fun f => ?_) (fun f i hi => ?_) 1000 0 (by omega) (by omega)
  · show L_X11_stickNow_29 M a3 x4 kk (f + 1) _ (nI n) = _
    rw [L_X11_stickNow_29, if_pos (by rw [g.2.2.1]; exact nI_le (Nat.le_refl n) (by omega))]
  · show L_X11_stickNow_29 M a3 x4 kk (f + 1) (lN (sN (fun i => len i * len i) i)) (nI i) = L_X11_stickNow_29 M a3 x4 kk f (lN (sN (fun i => len i * len i) i + len i * len i)) (nI (i + 1))
    have l := (g.2.2.2 i hi).2.1
    have l2 := Nat.mul_le_mul l l
    rw [L_X11_stickNow_29, if_neg (by rw [g.2.2.1]; exact nI_ge hi (by omega)), ibd_nI (by omega) (by omega), ibd_nI (by omega) (by omega), nIN (by omega), (g.2.2.2 i hi).2.2.2, lN_m _ _ (by omega) (by omega) (by omega), lN_add]
    simp only [lt, nI_1]
