-- bytes
def bt (v j : Nat) : Nat := if v.testBit j then 1 else 0
def on (v : Nat) : Nat := sN (bt v) 8
def nv (c : Bool) (v j : Nat) : Nat := if c then v ||| 2 ^ j else v &&& (255 - 2 ^ j)
theorem y_cnt : ∀ v : Fin 256, F_J6_bitCount_0f7a4 (nI v) = some (nI (on v)) := by decide +kernel
theorem y_bit : ∀ (v : Fin 256) (j : Fin 8), (nI v >>> (nI j &&& 31)) &&& 1 = nI (bt v j) ∧ ((nI v).toUInt32 >>> ((nI j).toUInt32 &&& Int32.toUInt32 31)).toInt32 &&& 1 = nI (bt v j) := by decide +kernel
theorem y_set : ∀ (v : Fin 256) (j : Fin 8), nI v ||| ((1 : Int32) <<< (nI j &&& 31)) = nI (nv true v j) ∧ nI v &&& (((1 : Int32) <<< (nI j &&& 31)) ^^^ (-1)) = nI (nv false v j) ∧ (bt v j = 0 → nI v ^^^ ((1 : Int32) <<< (nI j &&& 31)) = nI (nv true v j) ∧ nv false v j = v) ∧ (bt v j = 1 → nI v ^^^ ((1 : Int32) <<< (nI j &&& 31)) = nI (nv false v j) ∧ nv true v j = v) ∧ nv true v j < 256 ∧ nv false v j < 256 := by decide +kernel
theorem y_tb : ∀ (v : Fin 256) (j y : Fin 8), (nv true v j).testBit y = (if y = j then true else (v : Nat).testBit y) ∧ (nv false v j).testBit y = (if y = j then false else (v : Nat).testBit y) := by decide +kernel
theorem y_on0 : ∀ v : Fin 256, on v = 0 ↔ (v : Nat) = 0 := by decide +kernel
theorem bt_01 (v j : Nat) : bt v j = 0 ∨ bt v j = 1 := by unfold bt; split <;> simp
theorem bt_le (v j : Nat) : bt v j ≤ 1 := by rcases bt_01 v j with h | h <;> omega
theorem on_le (v : Nat) : on v ≤ 8 := by
  have := sN_le' (bt v) 1 8 (fun i _ => bt_le v i)
  unfold on
  omega
theorem o_cnt {v : Nat} (h : v < 256) : F_J6_bitCount_0f7a4 (nI v) = some (nI (on v)) := y_cnt ⟨v, h⟩
theorem o_bit {v j : Nat} (h : v < 256) (hj : j < 8) : (nI v >>> (nI j &&& 31)) &&& 1 = nI (bt v j) := (y_bit ⟨v, h⟩ ⟨j, hj⟩).1
theorem o_bitU {v j : Nat} (h : v < 256) (hj : j < 8) : ((nI v).toUInt32 >>> ((nI j).toUInt32 &&& Int32.toUInt32 31)).toInt32 &&& 1 = nI (bt v j) := (y_bit ⟨v, h⟩ ⟨j, hj⟩).2
theorem o_ones {v : Nat} (h : v < 256) : F_X11_ones (nI v) = some (nI (on v)) := by
  refine (F_X11_ones.eq_1 (nI v)).trans ?_
  refine (lt_eq _ _).trans ?_
  refine (lt_eq _ _).trans ?_
  unfold on
  refine loopN (L := fun f (q : Int32 × Int32) => L_X11_ones_4 (nI v) (fun w => some w) f q.1 q.2) (st := fun i => (nI (sN (bt v) i), nI i)) 8 _ (fun f => ?_) (fun f i hi => ?_) 1000 0 (by omega) (by omega)
  · show L_X11_ones_4 (nI v) (fun w => some w) (f + 1) _ (nI 8) = _
    rw [L_X11_ones_4, if_pos (by decide)]
  · show L_X11_ones_4 (nI v) (fun w => some w) (f + 1) (nI (sN (bt v) i)) (nI i) = L_X11_ones_4 (nI v) (fun w => some w) f (nI (sN (bt v) i + bt v i)) (nI (i + 1))
    rw [L_X11_ones_4, if_neg (show ¬ (8 : Int32) ≤ nI i from nI_ge (b := 8) hi (by decide)), o_bit h hi]
    simp only [lt, nI_1, nI_add]
theorem o_has {v j : Nat} (h : v < 256) (hj : j < 8) : F_X11_has (nI v) (nI j) = some (nI (bt v j)) := by
  unfold F_X11_has
  rw [o_bit h hj]
  rcases bt_01 v j with e | e
  · rw [e, if_neg (by decide)]; rfl
  · rw [e, if_pos (by decide)]; rfl
theorem o_tb {v j y : Nat} (c : Bool) (h : v < 256) (hj : j < 8) (hy : y < 8) : (nv c v j).testBit y = if y = j then c else v.testBit y := by
  have e := y_tb ⟨v, h⟩ ⟨j, hj⟩ ⟨y, hy⟩
  simp only [Fin.mk.injEq] at e
  cases c
  · exact e.2
  · exact e.1
theorem nv_lt {v j : Nat} (c : Bool) (h : v < 256) (hj : j < 8) : nv c v j < 256 := by
  have e := (y_set ⟨v, h⟩ ⟨j, hj⟩).2.2.2.2
  cases c
  · exact e.2
  · exact e.1
def h' (h : Nat → Nat) (c : Bool) (a b p : Nat) : Nat := if p = a then nv c (h a) b else if p = b then nv c (h b) a else h p
theorem f_rF {X1 M1 : zSt} {h : Nat → Nat} {a b : Nat} (c : Bool) (ha : a < 8) (hb : b < 8) (hab : a ≠ b) (h1 : ∀ p, p < 8 → h p < 256) (h2 : ∀ a b, a < 8 → b < 8 → (h a).testBit b = (h b).testBit a) (h3 : ∀ a, a < 8 → (h a).testBit a = false) (eX : ∀ p, p < 8 → zA X1 21 p = nI (h' h c a b p)) (eM : ∀ p, p < 8 → zA M1 13 p = nI (h' h c a b p)) : rF X1 M1 := by
  have tb : ∀ x y, x < 8 → y < 8 → (h' h c a b x).testBit y = if (x = a ∧ y = b) ∨ (x = b ∧ y = a) then c else (h x).testBit y := fun x y hx hy => by
    unfold h'
    by_cases e1 : x = a
    · rw [if_pos e1, o_tb c (h1 a ha) hb hy]
      by_cases e2 : y = b
      · rw [if_pos e2, if_pos (Or.inl ⟨e1, e2⟩)]
      · rw [if_neg e2, if_neg (by omega), e1]
    · rw [if_neg e1]
      by_cases e3 : x = b
      · rw [if_pos e3, o_tb c (h1 b hb) ha hy]
        by_cases e2 : y = a
        · rw [if_pos e2, if_pos (Or.inr ⟨e3, e2⟩)]
        · rw [if_neg e2, if_neg (by omega), e3]
      · rw [if_neg e3, if_neg (by omega)]
  refine ⟨h' h c a b, fun p hp => ⟨?_, eX p hp, eM p hp⟩, fun x y hx hy => ?_, fun x hx => ?_⟩
  · unfold h'
    split
    · exact nv_lt c (h1 a ha) hb
    · split
      · exact nv_lt c (h1 b hb) ha
      · exact h1 p hp
  · rw [tb x y hx hy, tb y x hy hx, h2 x y hx hy]
    by_cases e : (x = a ∧ y = b) ∨ (x = b ∧ y = a)
    · rw [if_pos e, if_pos (by omega)]
    · rw [if_neg e, if_neg (by omega)]
  · rw [tb x x hx hx, if_neg (by omega), h3 x hx]
theorem a_friends : ag_friends zR := by
  intro SX SM a1 a2 a3 hR
  by_cases h1 : (0 : Int32) ≤ a1 ∧ a1 ≤ 7
  · by_cases h2 : (0 : Int32) ≤ a2 ∧ a2 ≤ 7
    · by_cases h3 : (0 : Int32) ≤ a3 ∧ a3 ≤ 1
      · obtain ⟨a, -, ha, rfl⟩ := rng 0 7 rfl rfl (by decide) (by decide) h1
        obtain ⟨b, -, hb, rfl⟩ := rng 0 7 rfl rfl (by decide) (by decide) h2
        obtain ⟨k, -, hk, rfl⟩ := rng 0 1 rfl rfl (by decide) (by decide) h3
        unfold F_X10_friends F_X11_friends F_X0_setFriends
        rw [p_out, p_in, if_pos h1, if_pos h1, Option.bind_some, Option.bind_some, if_pos rfl, if_neg i01, p_out, p_in, if_pos h2, if_pos h2, Option.bind_some, Option.bind_some, if_pos rfl, if_neg i01, p_out, p_in, if_pos h3, if_pos h3, Option.bind_some, Option.bind_some, if_pos rfl, if_neg i01]
        by_cases hab : a = b
        · rw [if_pos (by rw [hab]), if_pos (by rw [hab])]
          exact ⟨_, _, _, rfl, rfl, hR⟩
        rw [if_neg (nI_ne hab (by omega) (by omega)), if_neg (nI_ne hab (by omega) (by omega))]
        obtain ⟨h, g1, g2, g3⟩ := hR.2.2.2.2.2.1
        obtain ⟨v1, x1, m1⟩ := g1 a (by omega)
        obtain ⟨v2, x2, m2⟩ := g1 b (by omega)
        simp only [ibd_nI (show a < 8 by omega) (by omega), ibd_nI (show b < 8 by omega) (by omega), nIN (show a < 2 ^ 31 by omega), nIN (show b < 2 ^ 31 by omega), lt, jn, zA_sA, if_true, upd_n _ _ (show b ≠ a from fun q => hab q.symm), x1, x2, m1, m2]
        rw [o_bit v1 (by omega), o_bitU v1 (by omega)]
        have sy : bt (h b) a = bt (h a) b := by unfold bt; rw [g2 b a (by omega) (by omega)]
        have y1 := y_set ⟨h a, v1⟩ ⟨b, by omega⟩
        have y2 := y_set ⟨h b, v2⟩ ⟨a, by omega⟩
        dsimp only at y1 y2
        have eM0 : eS [] [13] [] SM SM := eS_r _ _ _ _
        have eX0 : eS [] [21] [] SX SX := eS_r _ _ _ _
        have fin : ∀ (c : Bool) (X1 M1 : zSt), eS [] [21] [] SX X1 → eS [] [13] [] SM M1 → (∀ p, p < 8 → zA X1 21 p = nI (h' h c a b p)) → (∀ p, p < 8 → zA M1 13 p = nI (h' h c a b p)) → zR X1 M1 := fun c X1 M1 q1 q2 q3 q4 => zR_F q1 q2 hR (f_rF c (by omega) (by omega) hab (fun p hp => (g1 p hp).1) g2 g3 q3 q4)
        have upX : ∀ (S : zSt) (c : Bool) (k : Nat), (∀ p, p < 8 → zA S k p = nI (h p)) → ∀ p, p < 8 → upd (upd (zA S k) a (nI (nv c (h a) b))) b (nI (nv c (h b) a)) p = nI (h' h c a b p) := fun S c k q p hp => by
          unfold h'
          by_cases e1 : p = a
          · subst e1
            rw [if_pos rfl, upd_n _ _ hab, upd_s]
          · rw [if_neg e1]
            by_cases e2 : p = b
            · subst e2
              rw [if_pos rfl, upd_s]
            · rw [if_neg e2, upd_n _ _ e2, upd_n _ _ e1, q p hp]
        have noX : ∀ c : Bool, nv c (h a) b = h a → nv c (h b) a = h b → ∀ p, p < 8 → zA SX 21 p = nI (h' h c a b p) := fun c q1 q2 p hp => by
          unfold h'
          by_cases e1 : p = a
          · rw [if_pos e1, e1, q1, x1]
          · rw [if_neg e1]
            by_cases e2 : p = b
            · rw [if_pos e2, e2, q2, x2]
            · rw [if_neg e2, (g1 p hp).2.1]
        have hX : ∀ p, p < 8 → zA SX 21 p = nI (h p) := fun p hp => (g1 p hp).2.1
        have hM : ∀ p, p < 8 → zA SM 13 p = nI (h p) := fun p hp => (g1 p hp).2.2
        have cases : k = 0 ∨ k = 1 := by omega
        rcases cases with rfl | rfl
        · rw [if_neg (show ¬ nI 0 = 1 by decide), if_neg (show ¬ nI 0 = 1 by decide)]
          rw [y1.2.1, y2.2.1]
          rcases bt_01 (h a) b with e | e
          · rw [e, if_pos rfl]
            exact ⟨_, _, _, rfl, rfl, fin false _ _ eX0 (eS_A (eS_A eM0 13 _ (by decide)) 13 _ (by decide)) (noX false (y1.2.2.1 e).2 (y2.2.2.1 (sy.trans e)).2) (upX SM false 13 hM)⟩
          · rw [e, if_neg (by decide), (y1.2.2.2.1 e).1, (y2.2.2.2.1 (sy.trans e)).1]
            exact ⟨_, _, _, rfl, rfl, fin false _ _ (eS_A (eS_A eX0 21 _ (by decide)) 21 _ (by decide)) (eS_A (eS_A eM0 13 _ (by decide)) 13 _ (by decide)) (upX SX false 21 hX) (upX SM false 13 hM)⟩
        · rw [if_pos (show nI 1 = 1 by decide), if_pos (show nI 1 = 1 by decide)]
          rw [y1.1, y2.1]
          rcases bt_01 (h a) b with e | e
          · rw [e, if_neg (by decide), (y1.2.2.1 e).1, (y2.2.2.1 (sy.trans e)).1]
            exact ⟨_, _, _, rfl, rfl, fin true _ _ (eS_A (eS_A eX0 21 _ (by decide)) 21 _ (by decide)) (eS_A (eS_A eM0 13 _ (by decide)) 13 _ (by decide)) (upX SX true 21 hX) (upX SM true 13 hM)⟩
          · rw [e, if_pos rfl]
            exact ⟨_, _, _, rfl, rfl, fin true _ _ eX0 (eS_A (eS_A eM0 13 _ (by decide)) 13 _ (by decide)) (noX true (y1.2.2.2.1 e).2 (y2.2.2.2.1 (sy.trans e)).2) (upX SM true 13 hM)⟩
      · unfold F_X10_friends F_X11_friends
        rw [p_out, p_in, if_pos h1, if_pos h1, Option.bind_some, Option.bind_some, if_pos rfl, if_neg i01, p_out, p_in, if_pos h2, if_pos h2, Option.bind_some, Option.bind_some, if_pos rfl, if_neg i01, p_out, p_in, if_neg h3, if_neg h3]
        refine ⟨_, _, _, rfl, ?_, hR⟩
        by_cases e : a1 = a2
        · rw [if_pos e]
        · rw [if_neg e]; rfl
    · unfold F_X10_friends F_X11_friends
      rw [p_out, p_in, if_pos h1, if_pos h1, Option.bind_some, Option.bind_some, if_pos rfl, if_neg i01, p_out, p_in, if_neg h2, if_neg h2]
      exact ⟨_, _, _, rfl, rfl, hR⟩
  · unfold F_X10_friends F_X11_friends
    rw [p_out, p_in, if_neg h1, if_neg h1]
    exact ⟨_, _, _, rfl, rfl, hR⟩
