-- the friends' sums
def gH (X M : zSt) (h : Nat → Nat) : Prop := ∀ p, p < 8 → h p < 256 ∧ zA X 21 p = nI (h p) ∧ zA M 13 p = nI (h p)
theorem u_of {X M : zSt} {h : Nat → Nat} (g : gH X M h) {p : Nat} (hp : p < 8) : F_X0_friendsOf X (nI p) = some (nI (on (h p))) := by
  unfold F_X0_friendsOf
  rw [ibd_nI hp (by omega), nIN (by omega), (g p hp).2.1, o_cnt (g p hp).1]
  rfl
theorem u_ones {X M : zSt} {h : Nat → Nat} (g : gH X M h) {p : Nat} (hp : p < 8) : F_X11_ones (zA M 13 p) = some (nI (on (h p))) := by
  rw [(g p hp).2.2, o_ones (g p hp).1]
theorem u_is {X M : zSt} {h : Nat → Nat} (g : gH X M h) {p q : Nat} (hp : p < 8) (hq : q < 8) : F_X0_isFriend X (nI p) (nI q) = some (nI (bt (h p) q)) := by
  unfold F_X0_isFriend
  rw [ibd_nI hp (by omega), nIN (by omega), (g p hp).2.1, o_bitU (g p hp).1 hq]
  rcases bt_01 (h p) q with e | e
  · rw [e, if_pos nI_0]; rfl
  · rw [e, if_neg (by decide)]; rfl
theorem u_tell {X M : zSt} {h : Nat → Nat} (g : gH X M h) : F_X0_tellings X = some (nI (sN (fun p => on (h p)) 8)) := by
  refine (F_X0_tellings.eq_1 X).trans ?_
  refine (lt_eq _ _).trans ?_
  refine (lt_eq _ _).trans ?_
  refine loopN (L := fun f (q : Int32 × Int32) => L_X0_tellings_4 X (fun w => some w) f q.1 q.2) (st := fun i => (nI (sN (fun p => on (h p)) i), nI i)) 8 _ (fun f => ?_) (fun f i hi => ?_) 1000 0 (by omega) (by omega)
  · show L_X0_tellings_4 X (fun w => some w) (f + 1) _ (nI 8) = _
    rw [L_X0_tellings_4, if_pos (by decide)]
  · show L_X0_tellings_4 X (fun w => some w) (f + 1) (nI (sN (fun p => on (h p)) i)) (nI i) = L_X0_tellings_4 X (fun w => some w) f (nI (sN (fun p => on (h p)) i + on (h i))) (nI (i + 1))
    rw [L_X0_tellings_4, if_neg (show ¬ (8 : Int32) ≤ nI i from nI_ge (b := 8) hi (by decide)), u_of g hi, Option.bind_some]
    simp only [lt, nI_1, nI_add]
theorem u_hers {X M : zSt} {h : Nat → Nat} (g : gH X M h) {p : Nat} (hp : p < 8) : F_X0_friendsOfHers X (nI p) = some (nI (sN (fun q => bt (h p) q * on (h q)) 8)) := by
  refine (F_X0_friendsOfHers.eq_1 X (nI p)).trans ?_
  refine (lt_eq _ _).trans ?_
  refine (lt_eq _ _).trans ?_
  refine loopN (L := fun f (q : Int32 × Int32) => L_X0_friendsOfHers_4 X (nI p) (fun w => some w) f q.1 q.2) (st := fun i => (nI (sN (fun q => bt (h p) q * on (h q)) i), nI i)) 8 _ (fun f => ?_) (fun f i hi => ?_) 1000 0 (by omega) (by omega)
  · show L_X0_friendsOfHers_4 X (nI p) (fun w => some w) (f + 1) _ (nI 8) = _
    rw [L_X0_friendsOfHers_4, if_pos (by decide)]
  · show L_X0_friendsOfHers_4 X (nI p) (fun w => some w) (f + 1) (nI (sN (fun q => bt (h p) q * on (h q)) i)) (nI i) = L_X0_friendsOfHers_4 X (nI p) (fun w => some w) f (nI (sN (fun q => bt (h p) q * on (h q)) i + bt (h p) i * on (h i))) (nI (i + 1))
    rw [L_X0_friendsOfHers_4, if_neg (show ¬ (8 : Int32) ≤ nI i from nI_ge (b := 8) hi (by decide)), u_is g hp hi, u_of g hi, Option.bind_some]
    simp only [lt, nI_1, nI_add, Option.bind_some]
    rcases bt_01 (h p) i with e | e
    · rw [e, if_pos nI_0, Nat.zero_mul, Nat.add_zero (sN (fun q => bt (h p) q * on (h q)) i)]
    · rw [e, if_neg (by decide), Nat.one_mul]
theorem u_ff {X M : zSt} {h : Nat → Nat} (g : gH X M h) : F_X0_friendsOfFriends X = some (nI (sN (fun p => sN (fun q => bt (h p) q * on (h q)) 8) 8)) := by
  refine (F_X0_friendsOfFriends.eq_1 X).trans ?_
  refine (lt_eq _ _).trans ?_
  refine (lt_eq _ _).trans ?_
  refine loopN (L := fun f (q : Int32 × Int32) => L_X0_friendsOfFriends_4 X (fun w => some w) f q.1 q.2) (st := fun i => (nI (sN (fun p => sN (fun q => bt (h p) q * on (h q)) 8) i), nI i)) 8 _ (fun f => ?_) (fun f i hi => ?_) 1000 0 (by omega) (by omega)
  · show L_X0_friendsOfFriends_4 X (fun w => some w) (f + 1) _ (nI 8) = _
    rw [L_X0_friendsOfFriends_4, if_pos (by decide)]
  · show L_X0_friendsOfFriends_4 X (fun w => some w) (f + 1) (nI (sN (fun p => sN (fun q => bt (h p) q * on (h q)) 8) i)) (nI i) = L_X0_friendsOfFriends_4 X (fun w => some w) f (nI (sN (fun p => sN (fun q => bt (h p) q * on (h q)) 8) i + sN (fun q => bt (h i) q * on (h q)) 8)) (nI (i + 1))
    rw [L_X0_friendsOfFriends_4, if_neg (show ¬ (8 : Int32) ≤ nI i from nI_ge (b := 8) hi (by decide)), u_hers g hi, Option.bind_some]
    simp only [lt, nI_1, nI_add]
theorem u_fewM {X M : zSt} {h : Nat → Nat} (g : gH X M h) {p : Nat} (hp : p < 8) (v1 x3 : Int32) (k : Int32 → Option Int32) : L_X11_fewerNow_26 M v1 (nI p) x3 k 1000 0 0 = k (nI (sN (fun q => bt (h p) q * on (h q)) 8)) := by
  refine loopN (L := fun f (q : Int32 × Int32) => L_X11_fewerNow_26 M v1 (nI p) x3 k f q.1 q.2) (st := fun i => (nI (sN (fun q => bt (h p) q * on (h q)) i), nI i)) 8 _ (fun f => ?_) (fun f i hi => ?_) 1000 0 (by omega) (by omega)
  · show L_X11_fewerNow_26 M v1 (nI p) x3 k (f + 1) _ (nI 8) = _
    rw [L_X11_fewerNow_26, if_pos (by decide)]
  · show L_X11_fewerNow_26 M v1 (nI p) x3 k (f + 1) (nI (sN (fun q => bt (h p) q * on (h q)) i)) (nI i) = L_X11_fewerNow_26 M v1 (nI p) x3 k f (nI (sN (fun q => bt (h p) q * on (h q)) i + bt (h p) i * on (h i))) (nI (i + 1))
    rw [L_X11_fewerNow_26, if_neg (show ¬ (8 : Int32) ≤ nI i from nI_ge (b := 8) hi (by decide)), ibd_nI hp (by omega), ibd_nI hi (by omega), nIN (show p < 2 ^ 31 by omega), nIN (show i < 2 ^ 31 by omega), u_ones g hi, (g p hp).2.2, o_has (g p hp).1 hi, Option.bind_some, Option.bind_some]
    simp only [lt, nI_1, nI_add]
    rcases bt_01 (h p) i with e | e
    · rw [e, if_pos nI_0, Nat.zero_mul, Nat.add_zero (sN (fun q => bt (h p) q * on (h q)) i), Int32.add_zero]
    · rw [e, if_neg (by decide), Nat.one_mul]
theorem u_fewer {X M : zSt} {h : Nat → Nat} (g : gH X M h) : ∃ r, F_X0_withFewer X = some r ∧ F_X11_fewerNow M = some r := by
  let c : Nat → Prop := fun i => sN (fun q => bt (h i) q * on (h q)) 8 ≤ on (h i) * on (h i)
  have : ∀ i, Decidable (c i) := fun i => Nat.decLe _ _
  let st : Nat → Int32 × Int32 := fun i => (Nat.rec (motive := fun _ => Int32) 0 (fun i r => if c i then r else r ||| ((1 : Int32) <<< (nI i &&& 31))) i, nI i)
  have hs : ∀ i, st (i + 1) = (if c i then (st i).1 else (st i).1 ||| ((1 : Int32) <<< (nI i &&& 31)), nI (i + 1)) := fun i => rfl
  have hb : ∀ i, sN (fun q => bt (h i) q * on (h q)) 8 ≤ 8 * 8 := fun i => sN_le' _ 8 8 (fun q hq => by
    have := Nat.mul_le_mul (bt_le (h i) q) (on_le (h q))
    omega)
  have hb2 : ∀ i, on (h i) * on (h i) ≤ 8 * 8 := fun i => Nat.mul_le_mul (on_le _) (on_le _)
  have cc : ∀ i, nI (sN (fun q => bt (h i) q * on (h q)) 8) ≤ nI (on (h i)) * nI (on (h i)) ↔ c i := fun i => by
    have := hb i
    have := hb2 i
    rw [pk_mul, nI_leI (by omega) (by omega)]
  refine ⟨(st 8).1, ?_, ?_⟩
  · refine (F_X0_withFewer.eq_1 X).trans ?_
    refine (lt_eq _ _).trans ?_
    refine (lt_eq _ _).trans ?_
    refine loopN (L := fun f (q : Int32 × Int32) => L_X0_withFewer_4 X (fun w => some w) f q.1 q.2) (st := st) 8 _ (fun f => ?_) (fun f i hi => ?_) 1000 0 (by omega) (by omega)
    · show L_X0_withFewer_4 X (fun w => some w) (f + 1) (st 8).1 (nI 8) = _
      rw [L_X0_withFewer_4, if_pos (by decide)]
    · rw [hs]
      show L_X0_withFewer_4 X (fun w => some w) (f + 1) (st i).1 (nI i) = L_X0_withFewer_4 X (fun w => some w) f (if c i then (st i).1 else (st i).1 ||| ((1 : Int32) <<< (nI i &&& 31))) (nI (i + 1))
      rw [L_X0_withFewer_4, if_neg (show ¬ (8 : Int32) ≤ nI i from nI_ge (b := 8) hi (by decide)), u_of g hi, u_hers g hi]
      simp only [lt, nI_1, Option.bind_some]
      by_cases q : c i
      · rw [if_pos ((cc i).mpr q), if_pos q]
      · rw [if_neg (fun z => q ((cc i).mp z)), if_neg q]
  · refine (F_X11_fewerNow.eq_1 M).trans ?_
    refine (lt_eq _ _).trans ?_
    refine (lt_eq _ _).trans ?_
    refine loopN (L := fun f (q : Int32 × Int32) => L_X11_fewerNow_4 M (fun w => some w) f q.1 q.2) (st := st) 8 _ (fun f => ?_) (fun f i hi => ?_) 1000 0 (by omega) (by omega)
    · show L_X11_fewerNow_4 M (fun w => some w) (f + 1) (st 8).1 (nI 8) = _
      rw [L_X11_fewerNow_4, if_pos (by decide)]
    · rw [hs]
      show L_X11_fewerNow_4 M (fun w => some w) (f + 1) (st i).1 (nI i) = L_X11_fewerNow_4 M (fun w => some w) f (if c i then (st i).1 else (st i).1 ||| ((1 : Int32) <<< (nI i &&& 31))) (nI (i + 1))
      rw [L_X11_fewerNow_4, if_neg (show ¬ (8 : Int32) ≤ nI i from nI_ge (b := 8) hi (by decide)), ibd_nI hi (by omega), nIN (show i < 2 ^ 31 by omega), u_ones g hi, Option.bind_some]
      simp only [lt, nI_1]
      rw [u_fewM g hi]
      by_cases q : c i
      · rw [if_pos ((cc i).mpr q), if_pos q, Int32.or_zero]
      · rw [if_neg (fun z => q ((cc i).mp z)), if_neg q]
theorem a_fewer : ag_fewer zR := by
  intro SX SM hR
  obtain ⟨h, g, -, -⟩ := hR.2.2.2.2.2.1
  obtain ⟨r, r1, r2⟩ := u_fewer g
  unfold F_X10_fewer F_X11_fewer
  rw [r1, r2]
  exact ⟨r, rfl, rfl⟩
