-- the machine's count of ones
theorem lN_and (a b : Nat) : lN a &&& lN b = lN (a &&& b) := by
  apply Int64.toBitVec_inj.mp
  rw [Int64.toBitVec_and]
  show BitVec.ofNat 64 a &&& BitVec.ofNat 64 b = BitVec.ofNat 64 (a &&& b)
  rw [BitVec.ofNat_and]
theorem lN_or (a b : Nat) : lN a ||| lN b = lN (a ||| b) := by
  apply Int64.toBitVec_inj.mp
  rw [Int64.toBitVec_or]
  show BitVec.ofNat 64 a ||| BitVec.ofNat 64 b = BitVec.ofNat 64 (a ||| b)
  rw [BitVec.ofNat_or]
theorem lN_tn {n : Nat} (h : n < 2 ^ 64) : (lN n).toBitVec.toNat = n := Nat.mod_eq_of_lt h
theorem lN_ushr {n : Nat} (hn : n < 2 ^ 64) (s : Int32) (k : Nat) (hs : ((s.toInt64.toUInt64 &&& Int64.toUInt64 63).toBitVec % 64).toNat = k) : ((lN n).toUInt64 >>> (s.toInt64.toUInt64 &&& Int64.toUInt64 63)).toInt64 = lN (n / 2 ^ k) := by
  apply Int64.toBitVec_inj.mp
  apply BitVec.eq_of_toNat_eq
  have e : ((lN n).toUInt64 >>> (s.toInt64.toUInt64 &&& Int64.toUInt64 63)).toInt64.toBitVec = (lN n).toBitVec >>> k := by
    rw [← hs]
    exact UInt64.toBitVec_shiftRight _ _
  rw [e, BitVec.toNat_ushiftRight, Nat.shiftRight_eq_div_pow, lN_tn hn, lN_tn (Nat.lt_of_le_of_lt (Nat.div_le_self _ _) hn)]
theorem s_k : ∀ k : Fin 64, (((nI k).toInt64.toUInt64 &&& Int64.toUInt64 63).toBitVec % 64).toNat = k := by decide +kernel
theorem lN_sk {n k : Nat} (hn : n < 2 ^ 64) (hk : k < 64) : ((lN n).toUInt64 >>> ((nI k).toInt64.toUInt64 &&& Int64.toUInt64 63)).toInt64 = lN (n / 2 ^ k) := lN_ushr hn (nI k) k (s_k ⟨k, hk⟩)
theorem k_55 : (6148914691236517205 : Int64) = lN (mS 0x55 8) := by decide +kernel
theorem k_33 : (3689348814741910323 : Int64) = lN (mS 0x33 8) := by decide +kernel
theorem k_0f : (1085102592571150095 : Int64) = lN (mS 0x0f 8) := by decide +kernel
theorem k_33n : mS 0x33 8 = 3689348814741910323 := by decide +kernel
theorem z_1 {w : Nat} (hw : w < 2 ^ 64) : lN w - (((lN w).toUInt64 >>> (((1 : Int32)).toInt64.toUInt64 &&& Int64.toUInt64 63)).toInt64 &&& 6148914691236517205) = lN (A1 8 w) := by
  rw [show (1 : Int32) = nI 1 from rfl, lN_sk hw (by decide), k_55, lN_and, lN_sub (Nat.le_trans Nat.and_le_left (Nat.div_le_self _ _)), Nat.pow_one]
  unfold A1
  exact rfl
theorem z_2 {v : Nat} (hv : v < 2 ^ 64) : (lN v &&& 3689348814741910323) + (((lN v).toUInt64 >>> (((2 : Int32)).toInt64.toUInt64 &&& Int64.toUInt64 63)).toInt64 &&& 3689348814741910323) = lN (A2 8 v) := by
  rw [show (2 : Int32) = nI 2 from rfl, lN_sk hv (by decide), k_33, lN_and, lN_and, lN_add, show (2 : Nat) ^ 2 = 4 from rfl]
  unfold A2
  exact rfl
theorem z_3 {v : Nat} (hv : v < 2 ^ 64) : (lN v + ((lN v).toUInt64 >>> (((4 : Int32)).toInt64.toUInt64 &&& Int64.toUInt64 63)).toInt64) &&& 1085102592571150095 = lN (A3 8 v) := by
  rw [show (4 : Int32) = nI 4 from rfl, lN_sk hv (by decide), k_0f, lN_add, lN_and, show (2 : Nat) ^ 4 = 16 from rfl]
  unfold A3
  exact rfl
theorem A2_lt (v : Nat) : A2 8 v < 2 ^ 64 := by
  have h1 : v &&& mS 0x33 8 ≤ mS 0x33 8 := Nat.and_le_right
  have h2 : v / 4 &&& mS 0x33 8 ≤ mS 0x33 8 := Nat.and_le_right
  have m := k_33n
  unfold A2
  omega
theorem q_1 {a R : Nat} (ha : a ≤ 8) : (a + 256 * R) / 2 ^ 8 = R := by omega
theorem q_2 {a b R : Nat} (ha : a ≤ 16) (hb : b ≤ 16) : (a + 256 * (b + 256 * R)) / 2 ^ 16 = R := by omega
theorem q_3 {a b c d R : Nat} (ha : a ≤ 32) (hb : b ≤ 32) (hc : c ≤ 32) (hd : d ≤ 32) : (a + 256 * (b + 256 * (c + 256 * (d + 256 * R)))) / 2 ^ 32 = R := by omega
theorem q_4 {a b R Q : Nat} (ha : a ≤ 32) (hb : b ≤ 32) : (a + 256 * R + (b + 256 * Q)) % 2 ^ 7 = a + b := by omega
def n8 (a b c d e f g h : Nat) : Nat := a + 256 * (b + 256 * (c + 256 * (d + 256 * (e + 256 * (f + 256 * (g + 256 * h))))))
theorem n8_lt {a b c d e f g h : Nat} (ha : a ≤ 32) (hb : b ≤ 32) (hc : c ≤ 32) (hd : d ≤ 32) (he : e ≤ 32) (hf : f ≤ 32) (hg : g ≤ 32) (hh : h ≤ 32) : n8 a b c d e f g h < 2 ^ 64 := by
  unfold n8
  omega
theorem n8_1 (a b c d e f g h : Nat) : n8 a b c d e f g h + (b + 256 * (c + 256 * (d + 256 * (e + 256 * (f + 256 * (g + 256 * h)))))) = n8 (a + b) (b + c) (c + d) (d + e) (e + f) (f + g) (g + h) h := by
  unfold n8
  omega
theorem n8_2 (a b c d e f g h : Nat) : n8 a b c d e f g h + (c + 256 * (d + 256 * (e + 256 * (f + 256 * (g + 256 * h))))) = n8 (a + c) (b + d) (c + e) (d + f) (e + g) (f + h) g h := by
  unfold n8
  omega
theorem o_long {w : Nat} (hw : w < 2 ^ 64) : F_J13_bitCount_95d88 (lN w) = some (nI (sN (bt w) 64)) := by
  obtain ⟨a, b, c, d, e, f, g, h, ha, hb, hc, hd, he, hf, hg, hh, e1, e2⟩ := A_all hw
  unfold F_J13_bitCount_95d88
  simp only [lt]
  have x1 : A1 8 w ≤ w := Nat.sub_le _ _
  have e1 : A3 8 (A2 8 (A1 8 w)) = n8 a b c d e f g h := e1
  have d1 : ∀ R, (n8 a b c d e f g h) / 2 ^ 8 = R ↔ (b + 256 * (c + 256 * (d + 256 * (e + 256 * (f + 256 * (g + 256 * h)))))) = R := fun R => by
    unfold n8
    rw [q_1 ha]
  rw [z_1 hw, z_2 (Nat.lt_of_le_of_lt x1 hw), z_3 (A2_lt _), e1]
  rw [show (8 : Int32) = nI 8 from rfl, show (16 : Int32) = nI 16 from rfl, show (32 : Int32) = nI 32 from rfl, lN_sk (n8_lt (by omega) (by omega) (by omega) (by omega) (by omega) (by omega) (by omega) (by omega)) (by decide), (d1 _).mpr rfl, lN_add, n8_1]
  have d2 : (n8 (a + b) (b + c) (c + d) (d + e) (e + f) (f + g) (g + h) h) / 2 ^ 16 = ((c + d) + 256 * ((d + e) + 256 * ((e + f) + 256 * ((f + g) + 256 * ((g + h) + 256 * h))))) := by
    unfold n8
    exact q_2 (by omega) (by omega)
  rw [lN_sk (n8_lt (by omega) (by omega) (by omega) (by omega) (by omega) (by omega) (by omega) (by omega)) (by decide), d2, lN_add, n8_2]
  have d3 : (n8 (a + b + (c + d)) (b + c + (d + e)) (c + d + (e + f)) (d + e + (f + g)) (e + f + (g + h)) (f + g + h) (g + h) h) / 2 ^ 32 = ((e + f + (g + h)) + 256 * ((f + g + h) + 256 * ((g + h) + 256 * h))) := by
    unfold n8
    exact q_3 (by omega) (by omega) (by omega) (by omega)
  rw [lN_sk (n8_lt (by omega) (by omega) (by omega) (by omega) (by omega) (by omega) (by omega) (by omega)) (by decide), d3, lN_add, lN_i, show (127 : Int32) = nI 127 from rfl, nI_and, show (127 : Nat) = 2 ^ 7 - 1 by decide, Nat.and_two_pow_sub_one_eq_mod, e2]
  have d4 : (n8 (a + b + (c + d)) (b + c + (d + e)) (c + d + (e + f)) (d + e + (f + g)) (e + f + (g + h)) (f + g + h) (g + h) h + ((e + f + (g + h)) + 256 * ((f + g + h) + 256 * ((g + h) + 256 * h)))) % 2 ^ 7 = (a + b + (c + d)) + (e + f + (g + h)) := by
    unfold n8
    exact q_4 (by omega) (by omega)
  rw [d4, show a + b + (c + d) + (e + f + (g + h)) = a + (b + (c + (d + (e + (f + (g + h)))))) by omega]
