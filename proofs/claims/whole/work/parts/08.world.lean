abbrev zGx : Type := (Nat → Nat) × ClassId × ClassId × ClassId × ClassId
abbrev zT (g : zGx) : zTy := [(g.2.1, .int), (g.2.2.1, .long), (g.2.2.2.1, .array .int), (g.2.2.2.2, .boolean)]
def lX (k : Nat) : Nat := if k < 26 then (match k with | 10 => 40 | 12 => 12 | 13 => 12 | 15 => 40 | 16 => 40 | 17 => 40 | 19 => 24 | 20 => 24 | 21 => 8 | 22 => 8 | 24 => 4 | 25 => 4 | _ => 0) else if k < 38 then 6 else if k < 42 then 9 else 60
def aX (g : zGx) (S : zSt) (k : Nat) : va_E := if k = 11 then .inl (g.2.2.1, 2, .inr (.inl (zL S 11))) else if k = 14 then .inl (g.2.2.2.1, 12, .inr (.inr (.inr (.inr (fun z => some (g.1 (26 + z))))))) else if k = 18 then .inl (g.2.2.2.1, 4, .inr (.inr (.inr (.inr (fun z => some (g.1 (38 + z))))))) else if k = 23 then .inl (g.2.2.2.1, 4, .inr (.inr (.inr (.inr (fun z => some (g.1 (42 + z))))))) else .inl (g.2.1, lX k, .inl (zA S k))
def cX (g : zGx) (S : zSt) : Nat → va_E
  | 0 => .inr (9, [.ref (g.1 1), .ref (g.1 2), .ref (g.1 3), .ref (g.1 4), .ref (g.1 5), .ref (g.1 6), .ref (g.1 7), .ref (g.1 8), .ref (g.1 9)])
  | 1 => .inr (7, [.ref (g.1 10), .int (zI S 0), .int (zI S 1), .long (zJ S 0)])
  | 2 => .inr (5, [.ref (g.1 11)])
  | 3 => .inr (2, [.ref (g.1 12), .ref (g.1 13), .ref (g.1 14), .int (zI S 2), .int (zI S 3)])
  | 4 => .inr (6, [.ref (g.1 15), .ref (g.1 16), .ref (g.1 17), .int (zI S 4), .int (zI S 5), .int (zI S 6)])
  | 5 => .inr (1, [.ref (g.1 18)])
  | 6 => .inr (8, [.ref (g.1 19), .ref (g.1 20), .int (zI S 7)])
  | 7 => .inr (0, [.ref (g.1 21)])
  | 8 => .inr (3, [.ref (g.1 22), .int (zI S 8)])
  | 9 => .inr (4, [.ref (g.1 23), .ref (g.1 24), .ref (g.1 25), .int (zI S 9)])
  | k + 10 => aX g S (k + 10)
abbrev WX (g : zGx) : zWl := (46, g.1, cX g)
theorem cX_0 (g : zGx) (S : zSt) : (WX g).2.2 S 0 = .inr (9, [.ref (g.1 1), .ref (g.1 2), .ref (g.1 3), .ref (g.1 4), .ref (g.1 5), .ref (g.1 6), .ref (g.1 7), .ref (g.1 8), .ref (g.1 9)]) := rfl
theorem cX_1 (g : zGx) (S : zSt) : (WX g).2.2 S 1 = .inr (7, [.ref (g.1 10), .int (zI S 0), .int (zI S 1), .long (zJ S 0)]) := rfl
theorem cX_2 (g : zGx) (S : zSt) : (WX g).2.2 S 2 = .inr (5, [.ref (g.1 11)]) := rfl
theorem cX_3 (g : zGx) (S : zSt) : (WX g).2.2 S 3 = .inr (2, [.ref (g.1 12), .ref (g.1 13), .ref (g.1 14), .int (zI S 2), .int (zI S 3)]) := rfl
theorem cX_4 (g : zGx) (S : zSt) : (WX g).2.2 S 4 = .inr (6, [.ref (g.1 15), .ref (g.1 16), .ref (g.1 17), .int (zI S 4), .int (zI S 5), .int (zI S 6)]) := rfl
theorem cX_5 (g : zGx) (S : zSt) : (WX g).2.2 S 5 = .inr (1, [.ref (g.1 18)]) := rfl
theorem cX_6 (g : zGx) (S : zSt) : (WX g).2.2 S 6 = .inr (8, [.ref (g.1 19), .ref (g.1 20), .int (zI S 7)]) := rfl
theorem cX_7 (g : zGx) (S : zSt) : (WX g).2.2 S 7 = .inr (0, [.ref (g.1 21)]) := rfl
theorem cX_8 (g : zGx) (S : zSt) : (WX g).2.2 S 8 = .inr (3, [.ref (g.1 22), .int (zI S 8)]) := rfl
theorem cX_9 (g : zGx) (S : zSt) : (WX g).2.2 S 9 = .inr (4, [.ref (g.1 23), .ref (g.1 24), .ref (g.1 25), .int (zI S 9)]) := rfl
theorem cX_10 (g : zGx) (S : zSt) : (WX g).2.2 S 10 = .inl (g.2.1, 40, .inl (zA S 10)) := rfl
theorem cX_12 (g : zGx) (S : zSt) : (WX g).2.2 S 12 = .inl (g.2.1, 12, .inl (zA S 12)) := rfl
theorem cX_13 (g : zGx) (S : zSt) : (WX g).2.2 S 13 = .inl (g.2.1, 12, .inl (zA S 13)) := rfl
theorem cX_15 (g : zGx) (S : zSt) : (WX g).2.2 S 15 = .inl (g.2.1, 40, .inl (zA S 15)) := rfl
theorem cX_16 (g : zGx) (S : zSt) : (WX g).2.2 S 16 = .inl (g.2.1, 40, .inl (zA S 16)) := rfl
theorem cX_17 (g : zGx) (S : zSt) : (WX g).2.2 S 17 = .inl (g.2.1, 40, .inl (zA S 17)) := rfl
theorem cX_19 (g : zGx) (S : zSt) : (WX g).2.2 S 19 = .inl (g.2.1, 24, .inl (zA S 19)) := rfl
theorem cX_20 (g : zGx) (S : zSt) : (WX g).2.2 S 20 = .inl (g.2.1, 24, .inl (zA S 20)) := rfl
theorem cX_21 (g : zGx) (S : zSt) : (WX g).2.2 S 21 = .inl (g.2.1, 8, .inl (zA S 21)) := rfl
theorem cX_22 (g : zGx) (S : zSt) : (WX g).2.2 S 22 = .inl (g.2.1, 8, .inl (zA S 22)) := rfl
theorem cX_24 (g : zGx) (S : zSt) : (WX g).2.2 S 24 = .inl (g.2.1, 4, .inl (zA S 24)) := rfl
theorem cX_25 (g : zGx) (S : zSt) : (WX g).2.2 S 25 = .inl (g.2.1, 4, .inl (zA S 25)) := rfl
theorem cX_11 (g : zGx) (S : zSt) : (WX g).2.2 S 11 = .inl (g.2.2.1, 2, .inr (.inl (zL S 11))) := rfl
theorem cX_14 (g : zGx) (S : zSt) : (WX g).2.2 S 14 = .inl (g.2.2.2.1, 12, .inr (.inr (.inr (.inr (fun z => some (g.1 (26 + z))))))) := rfl
theorem cX_18 (g : zGx) (S : zSt) : (WX g).2.2 S 18 = .inl (g.2.2.2.1, 4, .inr (.inr (.inr (.inr (fun z => some (g.1 (38 + z))))))) := rfl
theorem cX_23 (g : zGx) (S : zSt) : (WX g).2.2 S 23 = .inl (g.2.2.2.1, 4, .inr (.inr (.inr (.inr (fun z => some (g.1 (42 + z))))))) := rfl
theorem aX_int (g : zGx) (S : zSt) {k : Nat} (h : k ≠ 11 ∧ k ≠ 14 ∧ k ≠ 18 ∧ k ≠ 23) : aX g S k = .inl (g.2.1, lX k, .inl (zA S k)) := by
  unfold aX
  rw [if_neg h.1, if_neg h.2.1, if_neg h.2.2.1, if_neg h.2.2.2]
theorem cX_big (g : zGx) (S : zSt) {k : Nat} (h : 10 ≤ k) : (WX g).2.2 S k = aX g S k := by
  obtain ⟨j, rfl⟩ : ∃ j, k = j + 10 := ⟨k - 10, by omega⟩
  rfl
theorem cX_r26 (g : zGx) (S : zSt) {t : Nat} (h : t < 12) : (WX g).2.2 S (26 + t) = .inl (g.2.1, 6, .inl (zA S (26 + t))) := by
  rw [cX_big g S (by omega), aX_int g S (by omega)]
  have : lX (26 + t) = 6 := by
    unfold lX
    rw [if_neg (by omega), if_pos (by omega)]
  rw [this]
theorem hX_r26 (g : zGx) {t : Nat} (h : t < 12) : 26 + t < (WX g).1 := by
  show 26 + t < 46
  omega
theorem cX_r38 (g : zGx) (S : zSt) {t : Nat} (h : t < 4) : (WX g).2.2 S (38 + t) = .inl (g.2.1, 9, .inl (zA S (38 + t))) := by
  rw [cX_big g S (by omega), aX_int g S (by omega)]
  have : lX (38 + t) = 9 := by
    unfold lX
    rw [if_neg (by omega), if_neg (by omega), if_pos (by omega)]
  rw [this]
theorem hX_r38 (g : zGx) {t : Nat} (h : t < 4) : 38 + t < (WX g).1 := by
  show 38 + t < 46
  omega
theorem cX_r42 (g : zGx) (S : zSt) {t : Nat} (h : t < 4) : (WX g).2.2 S (42 + t) = .inl (g.2.1, 60, .inl (zA S (42 + t))) := by
  rw [cX_big g S (by omega), aX_int g S (by omega)]
  have : lX (42 + t) = 60 := by
    unfold lX
    rw [if_neg (by omega), if_neg (by omega), if_neg (by omega)]
  rw [this]
theorem hX_r42 (g : zGx) {t : Nat} (h : t < 4) : 42 + t < (WX g).1 := by
  show 42 + t < 46
  omega
theorem uX_arr (g : zGx) (S : zSt) (k n : Nat) (f : Nat → Int32) (h10 : 10 ≤ k) (h : k ≠ 11 ∧ k ≠ 14 ∧ k ≠ 18 ∧ k ≠ 23) (hn : lX k = n) : (WX g).2.2 (sA S k f) k = .inl (g.2.1, n, .inl f) ∧ ∀ j, j ≠ k → (WX g).2.2 (sA S k f) j = (WX g).2.2 S j := by
  refine ⟨?_, fun j hj => ?_⟩
  · rw [cX_big g _ h10, aX_int g _ h, hn]
    simp [zA, sA]
  · match j, hj with
    | 0, _ => rfl
    | 1, _ => rfl
    | 2, _ => rfl
    | 3, _ => rfl
    | 4, _ => rfl
    | 5, _ => rfl
    | 6, _ => rfl
    | 7, _ => rfl
    | 8, _ => rfl
    | 9, _ => rfl
    | j + 10, hj =>
      show aX g (sA S k f) (j + 10) = aX g S (j + 10)
      unfold aX
      have e : zA (sA S k f) (j + 10) = zA S (j + 10) := by simp [zA, sA, hj]
      rw [e]
      rfl
theorem uX_10 (g : zGx) (S : zSt) (f : Nat → Int32) : (WX g).2.2 (sA S 10 f) 10 = .inl (g.2.1, 40, .inl f) ∧ ∀ j, j ≠ 10 → (WX g).2.2 (sA S 10 f) j = (WX g).2.2 S j := uX_arr g S 10 40 f (by decide) (by decide) rfl
theorem uX_12 (g : zGx) (S : zSt) (f : Nat → Int32) : (WX g).2.2 (sA S 12 f) 12 = .inl (g.2.1, 12, .inl f) ∧ ∀ j, j ≠ 12 → (WX g).2.2 (sA S 12 f) j = (WX g).2.2 S j := uX_arr g S 12 12 f (by decide) (by decide) rfl
theorem uX_13 (g : zGx) (S : zSt) (f : Nat → Int32) : (WX g).2.2 (sA S 13 f) 13 = .inl (g.2.1, 12, .inl f) ∧ ∀ j, j ≠ 13 → (WX g).2.2 (sA S 13 f) j = (WX g).2.2 S j := uX_arr g S 13 12 f (by decide) (by decide) rfl
theorem uX_15 (g : zGx) (S : zSt) (f : Nat → Int32) : (WX g).2.2 (sA S 15 f) 15 = .inl (g.2.1, 40, .inl f) ∧ ∀ j, j ≠ 15 → (WX g).2.2 (sA S 15 f) j = (WX g).2.2 S j := uX_arr g S 15 40 f (by decide) (by decide) rfl
theorem uX_16 (g : zGx) (S : zSt) (f : Nat → Int32) : (WX g).2.2 (sA S 16 f) 16 = .inl (g.2.1, 40, .inl f) ∧ ∀ j, j ≠ 16 → (WX g).2.2 (sA S 16 f) j = (WX g).2.2 S j := uX_arr g S 16 40 f (by decide) (by decide) rfl
theorem uX_17 (g : zGx) (S : zSt) (f : Nat → Int32) : (WX g).2.2 (sA S 17 f) 17 = .inl (g.2.1, 40, .inl f) ∧ ∀ j, j ≠ 17 → (WX g).2.2 (sA S 17 f) j = (WX g).2.2 S j := uX_arr g S 17 40 f (by decide) (by decide) rfl
theorem uX_19 (g : zGx) (S : zSt) (f : Nat → Int32) : (WX g).2.2 (sA S 19 f) 19 = .inl (g.2.1, 24, .inl f) ∧ ∀ j, j ≠ 19 → (WX g).2.2 (sA S 19 f) j = (WX g).2.2 S j := uX_arr g S 19 24 f (by decide) (by decide) rfl
theorem uX_20 (g : zGx) (S : zSt) (f : Nat → Int32) : (WX g).2.2 (sA S 20 f) 20 = .inl (g.2.1, 24, .inl f) ∧ ∀ j, j ≠ 20 → (WX g).2.2 (sA S 20 f) j = (WX g).2.2 S j := uX_arr g S 20 24 f (by decide) (by decide) rfl
theorem uX_21 (g : zGx) (S : zSt) (f : Nat → Int32) : (WX g).2.2 (sA S 21 f) 21 = .inl (g.2.1, 8, .inl f) ∧ ∀ j, j ≠ 21 → (WX g).2.2 (sA S 21 f) j = (WX g).2.2 S j := uX_arr g S 21 8 f (by decide) (by decide) rfl
theorem uX_22 (g : zGx) (S : zSt) (f : Nat → Int32) : (WX g).2.2 (sA S 22 f) 22 = .inl (g.2.1, 8, .inl f) ∧ ∀ j, j ≠ 22 → (WX g).2.2 (sA S 22 f) j = (WX g).2.2 S j := uX_arr g S 22 8 f (by decide) (by decide) rfl
theorem uX_24 (g : zGx) (S : zSt) (f : Nat → Int32) : (WX g).2.2 (sA S 24 f) 24 = .inl (g.2.1, 4, .inl f) ∧ ∀ j, j ≠ 24 → (WX g).2.2 (sA S 24 f) j = (WX g).2.2 S j := uX_arr g S 24 4 f (by decide) (by decide) rfl
theorem uX_25 (g : zGx) (S : zSt) (f : Nat → Int32) : (WX g).2.2 (sA S 25 f) 25 = .inl (g.2.1, 4, .inl f) ∧ ∀ j, j ≠ 25 → (WX g).2.2 (sA S 25 f) j = (WX g).2.2 S j := uX_arr g S 25 4 f (by decide) (by decide) rfl
theorem uX_r26 (g : zGx) (S : zSt) {t : Nat} (h : t < 12) (f : Nat → Int32) : (WX g).2.2 (sA S (26 + t) f) (26 + t) = .inl (g.2.1, 6, .inl f) ∧ ∀ j, j ≠ 26 + t → (WX g).2.2 (sA S (26 + t) f) j = (WX g).2.2 S j := uX_arr g S (26 + t) 6 f (by omega) (by omega) (by
    unfold lX
    rw [if_neg (by omega), if_pos (by omega)])
theorem uX_r38 (g : zGx) (S : zSt) {t : Nat} (h : t < 4) (f : Nat → Int32) : (WX g).2.2 (sA S (38 + t) f) (38 + t) = .inl (g.2.1, 9, .inl f) ∧ ∀ j, j ≠ 38 + t → (WX g).2.2 (sA S (38 + t) f) j = (WX g).2.2 S j := uX_arr g S (38 + t) 9 f (by omega) (by omega) (by
    unfold lX
    rw [if_neg (by omega), if_neg (by omega), if_pos (by omega)])
theorem uX_r42 (g : zGx) (S : zSt) {t : Nat} (h : t < 4) (f : Nat → Int32) : (WX g).2.2 (sA S (42 + t) f) (42 + t) = .inl (g.2.1, 60, .inl f) ∧ ∀ j, j ≠ 42 + t → (WX g).2.2 (sA S (42 + t) f) j = (WX g).2.2 S j := uX_arr g S (42 + t) 60 f (by omega) (by omega) (by
    unfold lX
    rw [if_neg (by omega), if_neg (by omega), if_neg (by omega)])
theorem uX_11 (g : zGx) (S : zSt) (f : Nat → Int64) : (WX g).2.2 (sL S 11 f) 11 = .inl (g.2.2.1, 2, .inr (.inl f)) ∧ ∀ j, j ≠ 11 → (WX g).2.2 (sL S 11 f) j = (WX g).2.2 S j := by
  refine ⟨rfl, fun j hj => ?_⟩
  match j, hj with
  | 0, _ => rfl
  | 1, _ => rfl
  | 2, _ => rfl
  | 3, _ => rfl
  | 4, _ => rfl
  | 5, _ => rfl
  | 6, _ => rfl
  | 7, _ => rfl
  | 8, _ => rfl
  | 9, _ => rfl
  | j + 10, hj =>
    show aX g (sL S 11 f) (j + 10) = aX g S (j + 10)
    unfold aX
    rw [if_neg hj, if_neg hj]
    rfl
theorem pX_1_1 (g : zGx) (S : zSt) (v : Int32) : (WX g).2.2 (sI S 0 v) 1 = .inr (7, ([.ref (g.1 10), .int (zI S 0), .int (zI S 1), .long (zJ S 0)] : List Value).set 1 (.int v)) ∧ ∀ j, j ≠ 1 → (WX g).2.2 (sI S 0 v) j = (WX g).2.2 S j := by
  refine ⟨rfl, fun j hj => ?_⟩
  match j, hj with
  | 0, _ => rfl
  | 1, hj => exact absurd rfl hj
  | 2, _ => rfl
  | 3, _ => rfl
  | 4, _ => rfl
  | 5, _ => rfl
  | 6, _ => rfl
  | 7, _ => rfl
  | 8, _ => rfl
  | 9, _ => rfl
  | j + 10, _ => rfl
theorem pX_1_2 (g : zGx) (S : zSt) (v : Int32) : (WX g).2.2 (sI S 1 v) 1 = .inr (7, ([.ref (g.1 10), .int (zI S 0), .int (zI S 1), .long (zJ S 0)] : List Value).set 2 (.int v)) ∧ ∀ j, j ≠ 1 → (WX g).2.2 (sI S 1 v) j = (WX g).2.2 S j := by
  refine ⟨rfl, fun j hj => ?_⟩
  match j, hj with
  | 0, _ => rfl
  | 1, hj => exact absurd rfl hj
  | 2, _ => rfl
  | 3, _ => rfl
  | 4, _ => rfl
  | 5, _ => rfl
  | 6, _ => rfl
  | 7, _ => rfl
  | 8, _ => rfl
  | 9, _ => rfl
  | j + 10, _ => rfl
theorem pX_1_3 (g : zGx) (S : zSt) (v : Int64) : (WX g).2.2 (sJ S 0 v) 1 = .inr (7, ([.ref (g.1 10), .int (zI S 0), .int (zI S 1), .long (zJ S 0)] : List Value).set 3 (.long v)) ∧ ∀ j, j ≠ 1 → (WX g).2.2 (sJ S 0 v) j = (WX g).2.2 S j := by
  refine ⟨rfl, fun j hj => ?_⟩
  match j, hj with
  | 0, _ => rfl
  | 1, hj => exact absurd rfl hj
  | 2, _ => rfl
  | 3, _ => rfl
  | 4, _ => rfl
  | 5, _ => rfl
  | 6, _ => rfl
  | 7, _ => rfl
  | 8, _ => rfl
  | 9, _ => rfl
  | j + 10, _ => rfl
theorem pX_3_3 (g : zGx) (S : zSt) (v : Int32) : (WX g).2.2 (sI S 2 v) 3 = .inr (2, ([.ref (g.1 12), .ref (g.1 13), .ref (g.1 14), .int (zI S 2), .int (zI S 3)] : List Value).set 3 (.int v)) ∧ ∀ j, j ≠ 3 → (WX g).2.2 (sI S 2 v) j = (WX g).2.2 S j := by
  refine ⟨rfl, fun j hj => ?_⟩
  match j, hj with
  | 0, _ => rfl
  | 1, _ => rfl
  | 2, _ => rfl
  | 3, hj => exact absurd rfl hj
  | 4, _ => rfl
  | 5, _ => rfl
  | 6, _ => rfl
  | 7, _ => rfl
  | 8, _ => rfl
  | 9, _ => rfl
  | j + 10, _ => rfl
theorem pX_3_4 (g : zGx) (S : zSt) (v : Int32) : (WX g).2.2 (sI S 3 v) 3 = .inr (2, ([.ref (g.1 12), .ref (g.1 13), .ref (g.1 14), .int (zI S 2), .int (zI S 3)] : List Value).set 4 (.int v)) ∧ ∀ j, j ≠ 3 → (WX g).2.2 (sI S 3 v) j = (WX g).2.2 S j := by
  refine ⟨rfl, fun j hj => ?_⟩
  match j, hj with
  | 0, _ => rfl
  | 1, _ => rfl
  | 2, _ => rfl
  | 3, hj => exact absurd rfl hj
  | 4, _ => rfl
  | 5, _ => rfl
  | 6, _ => rfl
  | 7, _ => rfl
  | 8, _ => rfl
  | 9, _ => rfl
  | j + 10, _ => rfl
theorem pX_4_3 (g : zGx) (S : zSt) (v : Int32) : (WX g).2.2 (sI S 4 v) 4 = .inr (6, ([.ref (g.1 15), .ref (g.1 16), .ref (g.1 17), .int (zI S 4), .int (zI S 5), .int (zI S 6)] : List Value).set 3 (.int v)) ∧ ∀ j, j ≠ 4 → (WX g).2.2 (sI S 4 v) j = (WX g).2.2 S j := by
  refine ⟨rfl, fun j hj => ?_⟩
  match j, hj with
  | 0, _ => rfl
  | 1, _ => rfl
  | 2, _ => rfl
  | 3, _ => rfl
  | 4, hj => exact absurd rfl hj
  | 5, _ => rfl
  | 6, _ => rfl
  | 7, _ => rfl
  | 8, _ => rfl
  | 9, _ => rfl
  | j + 10, _ => rfl
theorem pX_4_4 (g : zGx) (S : zSt) (v : Int32) : (WX g).2.2 (sI S 5 v) 4 = .inr (6, ([.ref (g.1 15), .ref (g.1 16), .ref (g.1 17), .int (zI S 4), .int (zI S 5), .int (zI S 6)] : List Value).set 4 (.int v)) ∧ ∀ j, j ≠ 4 → (WX g).2.2 (sI S 5 v) j = (WX g).2.2 S j := by
  refine ⟨rfl, fun j hj => ?_⟩
  match j, hj with
  | 0, _ => rfl
  | 1, _ => rfl
  | 2, _ => rfl
  | 3, _ => rfl
  | 4, hj => exact absurd rfl hj
  | 5, _ => rfl
  | 6, _ => rfl
  | 7, _ => rfl
  | 8, _ => rfl
  | 9, _ => rfl
  | j + 10, _ => rfl
theorem pX_4_5 (g : zGx) (S : zSt) (v : Int32) : (WX g).2.2 (sI S 6 v) 4 = .inr (6, ([.ref (g.1 15), .ref (g.1 16), .ref (g.1 17), .int (zI S 4), .int (zI S 5), .int (zI S 6)] : List Value).set 5 (.int v)) ∧ ∀ j, j ≠ 4 → (WX g).2.2 (sI S 6 v) j = (WX g).2.2 S j := by
  refine ⟨rfl, fun j hj => ?_⟩
  match j, hj with
  | 0, _ => rfl
  | 1, _ => rfl
  | 2, _ => rfl
  | 3, _ => rfl
  | 4, hj => exact absurd rfl hj
  | 5, _ => rfl
  | 6, _ => rfl
  | 7, _ => rfl
  | 8, _ => rfl
  | 9, _ => rfl
  | j + 10, _ => rfl
theorem pX_6_2 (g : zGx) (S : zSt) (v : Int32) : (WX g).2.2 (sI S 7 v) 6 = .inr (8, ([.ref (g.1 19), .ref (g.1 20), .int (zI S 7)] : List Value).set 2 (.int v)) ∧ ∀ j, j ≠ 6 → (WX g).2.2 (sI S 7 v) j = (WX g).2.2 S j := by
  refine ⟨rfl, fun j hj => ?_⟩
  match j, hj with
  | 0, _ => rfl
  | 1, _ => rfl
  | 2, _ => rfl
  | 3, _ => rfl
  | 4, _ => rfl
  | 5, _ => rfl
  | 6, hj => exact absurd rfl hj
  | 7, _ => rfl
  | 8, _ => rfl
  | 9, _ => rfl
  | j + 10, _ => rfl
theorem pX_8_1 (g : zGx) (S : zSt) (v : Int32) : (WX g).2.2 (sI S 8 v) 8 = .inr (3, ([.ref (g.1 22), .int (zI S 8)] : List Value).set 1 (.int v)) ∧ ∀ j, j ≠ 8 → (WX g).2.2 (sI S 8 v) j = (WX g).2.2 S j := by
  refine ⟨rfl, fun j hj => ?_⟩
  match j, hj with
  | 0, _ => rfl
  | 1, _ => rfl
  | 2, _ => rfl
  | 3, _ => rfl
  | 4, _ => rfl
  | 5, _ => rfl
  | 6, _ => rfl
  | 7, _ => rfl
  | 8, hj => exact absurd rfl hj
  | 9, _ => rfl
  | j + 10, _ => rfl
theorem pX_9_3 (g : zGx) (S : zSt) (v : Int32) : (WX g).2.2 (sI S 9 v) 9 = .inr (4, ([.ref (g.1 23), .ref (g.1 24), .ref (g.1 25), .int (zI S 9)] : List Value).set 3 (.int v)) ∧ ∀ j, j ≠ 9 → (WX g).2.2 (sI S 9 v) j = (WX g).2.2 S j := by
  refine ⟨rfl, fun j hj => ?_⟩
  match j, hj with
  | 0, _ => rfl
  | 1, _ => rfl
  | 2, _ => rfl
  | 3, _ => rfl
  | 4, _ => rfl
  | 5, _ => rfl
  | 6, _ => rfl
  | 7, _ => rfl
  | 8, _ => rfl
  | 9, hj => exact absurd rfl hj
  | j + 10, _ => rfl
def lM (k : Nat) : Nat := match k with | 1 => 40 | 2 => 60 | 3 => 120 | 4 => 60 | 5 => 72 | 6 => 12 | 7 => 40 | 8 => 40 | 9 => 40 | 10 => 36 | 11 => 24 | 12 => 24 | 13 => 8 | 14 => 8 | 15 => 4 | 16 => 4 | 17 => 4 | 18 => 240 | 19 => 60 | _ => 0
def cM (g : zGx) (S : zSt) : Nat → va_E
  | 0 => .inr (10, [.int (zI S 0), .ref (g.1 1), .ref (g.1 2), .ref (g.1 3), .int (zI S 1), .ref (g.1 4), .ref (g.1 5), .ref (g.1 6), .int (zI S 2), .ref (g.1 7), .ref (g.1 8), .ref (g.1 9), .int (zI S 3), .int (zI S 4), .ref (g.1 10), .int (zI S 5), .ref (g.1 11), .ref (g.1 12), .ref (g.1 13), .int (zI S 6), .ref (g.1 14), .ref (g.1 15), .ref (g.1 16), .ref (g.1 17), .ref (g.1 18), .ref (g.1 19), .int (zI S 7)])
  | k + 1 => .inl (if k = 14 then g.2.2.2.2 else g.2.1, lM (k + 1), .inl (zA S (k + 1)))
abbrev WM (g : zGx) : zWl := (20, g.1, cM g)
theorem cM_0 (g : zGx) (S : zSt) : (WM g).2.2 S 0 = .inr (10, [.int (zI S 0), .ref (g.1 1), .ref (g.1 2), .ref (g.1 3), .int (zI S 1), .ref (g.1 4), .ref (g.1 5), .ref (g.1 6), .int (zI S 2), .ref (g.1 7), .ref (g.1 8), .ref (g.1 9), .int (zI S 3), .int (zI S 4), .ref (g.1 10), .int (zI S 5), .ref (g.1 11), .ref (g.1 12), .ref (g.1 13), .int (zI S 6), .ref (g.1 14), .ref (g.1 15), .ref (g.1 16), .ref (g.1 17), .ref (g.1 18), .ref (g.1 19), .int (zI S 7)]) := rfl
theorem cM_1 (g : zGx) (S : zSt) : (WM g).2.2 S 1 = .inl (g.2.1, 40, .inl (zA S 1)) := rfl
theorem uM_1 (g : zGx) (S : zSt) (f : Nat → Int32) : (WM g).2.2 (sA S 1 f) 1 = .inl (g.2.1, 40, .inl f) ∧ ∀ j, j ≠ 1 → (WM g).2.2 (sA S 1 f) j = (WM g).2.2 S j := by
  refine ⟨rfl, fun j hj => ?_⟩
  match j, hj with
  | 0, _ => rfl
  | j + 1, hj =>
    have e : zA (sA S 1 f) (j + 1) = zA S (j + 1) := by simp only [zA, sA, if_neg hj]
    show Sum.inl _ = Sum.inl _
    rw [e]
theorem cM_2 (g : zGx) (S : zSt) : (WM g).2.2 S 2 = .inl (g.2.1, 60, .inl (zA S 2)) := rfl
theorem uM_2 (g : zGx) (S : zSt) (f : Nat → Int32) : (WM g).2.2 (sA S 2 f) 2 = .inl (g.2.1, 60, .inl f) ∧ ∀ j, j ≠ 2 → (WM g).2.2 (sA S 2 f) j = (WM g).2.2 S j := by
  refine ⟨rfl, fun j hj => ?_⟩
  match j, hj with
  | 0, _ => rfl
  | j + 1, hj =>
    have e : zA (sA S 2 f) (j + 1) = zA S (j + 1) := by simp only [zA, sA, if_neg hj]
    show Sum.inl _ = Sum.inl _
    rw [e]
theorem cM_3 (g : zGx) (S : zSt) : (WM g).2.2 S 3 = .inl (g.2.1, 120, .inl (zA S 3)) := rfl
theorem uM_3 (g : zGx) (S : zSt) (f : Nat → Int32) : (WM g).2.2 (sA S 3 f) 3 = .inl (g.2.1, 120, .inl f) ∧ ∀ j, j ≠ 3 → (WM g).2.2 (sA S 3 f) j = (WM g).2.2 S j := by
  refine ⟨rfl, fun j hj => ?_⟩
  match j, hj with
  | 0, _ => rfl
  | j + 1, hj =>
    have e : zA (sA S 3 f) (j + 1) = zA S (j + 1) := by simp only [zA, sA, if_neg hj]
    show Sum.inl _ = Sum.inl _
    rw [e]
theorem cM_4 (g : zGx) (S : zSt) : (WM g).2.2 S 4 = .inl (g.2.1, 60, .inl (zA S 4)) := rfl
theorem uM_4 (g : zGx) (S : zSt) (f : Nat → Int32) : (WM g).2.2 (sA S 4 f) 4 = .inl (g.2.1, 60, .inl f) ∧ ∀ j, j ≠ 4 → (WM g).2.2 (sA S 4 f) j = (WM g).2.2 S j := by
  refine ⟨rfl, fun j hj => ?_⟩
  match j, hj with
  | 0, _ => rfl
  | j + 1, hj =>
    have e : zA (sA S 4 f) (j + 1) = zA S (j + 1) := by simp only [zA, sA, if_neg hj]
    show Sum.inl _ = Sum.inl _
    rw [e]
theorem cM_5 (g : zGx) (S : zSt) : (WM g).2.2 S 5 = .inl (g.2.1, 72, .inl (zA S 5)) := rfl
theorem uM_5 (g : zGx) (S : zSt) (f : Nat → Int32) : (WM g).2.2 (sA S 5 f) 5 = .inl (g.2.1, 72, .inl f) ∧ ∀ j, j ≠ 5 → (WM g).2.2 (sA S 5 f) j = (WM g).2.2 S j := by
  refine ⟨rfl, fun j hj => ?_⟩
  match j, hj with
  | 0, _ => rfl
  | j + 1, hj =>
    have e : zA (sA S 5 f) (j + 1) = zA S (j + 1) := by simp only [zA, sA, if_neg hj]
    show Sum.inl _ = Sum.inl _
    rw [e]
theorem cM_6 (g : zGx) (S : zSt) : (WM g).2.2 S 6 = .inl (g.2.1, 12, .inl (zA S 6)) := rfl
theorem uM_6 (g : zGx) (S : zSt) (f : Nat → Int32) : (WM g).2.2 (sA S 6 f) 6 = .inl (g.2.1, 12, .inl f) ∧ ∀ j, j ≠ 6 → (WM g).2.2 (sA S 6 f) j = (WM g).2.2 S j := by
  refine ⟨rfl, fun j hj => ?_⟩
  match j, hj with
  | 0, _ => rfl
  | j + 1, hj =>
    have e : zA (sA S 6 f) (j + 1) = zA S (j + 1) := by simp only [zA, sA, if_neg hj]
    show Sum.inl _ = Sum.inl _
    rw [e]
theorem cM_7 (g : zGx) (S : zSt) : (WM g).2.2 S 7 = .inl (g.2.1, 40, .inl (zA S 7)) := rfl
theorem uM_7 (g : zGx) (S : zSt) (f : Nat → Int32) : (WM g).2.2 (sA S 7 f) 7 = .inl (g.2.1, 40, .inl f) ∧ ∀ j, j ≠ 7 → (WM g).2.2 (sA S 7 f) j = (WM g).2.2 S j := by
  refine ⟨rfl, fun j hj => ?_⟩
  match j, hj with
  | 0, _ => rfl
  | j + 1, hj =>
    have e : zA (sA S 7 f) (j + 1) = zA S (j + 1) := by simp only [zA, sA, if_neg hj]
    show Sum.inl _ = Sum.inl _
    rw [e]
theorem cM_8 (g : zGx) (S : zSt) : (WM g).2.2 S 8 = .inl (g.2.1, 40, .inl (zA S 8)) := rfl
theorem uM_8 (g : zGx) (S : zSt) (f : Nat → Int32) : (WM g).2.2 (sA S 8 f) 8 = .inl (g.2.1, 40, .inl f) ∧ ∀ j, j ≠ 8 → (WM g).2.2 (sA S 8 f) j = (WM g).2.2 S j := by
  refine ⟨rfl, fun j hj => ?_⟩
  match j, hj with
  | 0, _ => rfl
  | j + 1, hj =>
    have e : zA (sA S 8 f) (j + 1) = zA S (j + 1) := by simp only [zA, sA, if_neg hj]
    show Sum.inl _ = Sum.inl _
    rw [e]
theorem cM_9 (g : zGx) (S : zSt) : (WM g).2.2 S 9 = .inl (g.2.1, 40, .inl (zA S 9)) := rfl
theorem uM_9 (g : zGx) (S : zSt) (f : Nat → Int32) : (WM g).2.2 (sA S 9 f) 9 = .inl (g.2.1, 40, .inl f) ∧ ∀ j, j ≠ 9 → (WM g).2.2 (sA S 9 f) j = (WM g).2.2 S j := by
  refine ⟨rfl, fun j hj => ?_⟩
  match j, hj with
  | 0, _ => rfl
  | j + 1, hj =>
    have e : zA (sA S 9 f) (j + 1) = zA S (j + 1) := by simp only [zA, sA, if_neg hj]
    show Sum.inl _ = Sum.inl _
    rw [e]
theorem cM_10 (g : zGx) (S : zSt) : (WM g).2.2 S 10 = .inl (g.2.1, 36, .inl (zA S 10)) := rfl
theorem uM_10 (g : zGx) (S : zSt) (f : Nat → Int32) : (WM g).2.2 (sA S 10 f) 10 = .inl (g.2.1, 36, .inl f) ∧ ∀ j, j ≠ 10 → (WM g).2.2 (sA S 10 f) j = (WM g).2.2 S j := by
  refine ⟨rfl, fun j hj => ?_⟩
  match j, hj with
  | 0, _ => rfl
  | j + 1, hj =>
    have e : zA (sA S 10 f) (j + 1) = zA S (j + 1) := by simp only [zA, sA, if_neg hj]
    show Sum.inl _ = Sum.inl _
    rw [e]
theorem cM_11 (g : zGx) (S : zSt) : (WM g).2.2 S 11 = .inl (g.2.1, 24, .inl (zA S 11)) := rfl
theorem uM_11 (g : zGx) (S : zSt) (f : Nat → Int32) : (WM g).2.2 (sA S 11 f) 11 = .inl (g.2.1, 24, .inl f) ∧ ∀ j, j ≠ 11 → (WM g).2.2 (sA S 11 f) j = (WM g).2.2 S j := by
  refine ⟨rfl, fun j hj => ?_⟩
  match j, hj with
  | 0, _ => rfl
  | j + 1, hj =>
    have e : zA (sA S 11 f) (j + 1) = zA S (j + 1) := by simp only [zA, sA, if_neg hj]
    show Sum.inl _ = Sum.inl _
    rw [e]
theorem cM_12 (g : zGx) (S : zSt) : (WM g).2.2 S 12 = .inl (g.2.1, 24, .inl (zA S 12)) := rfl
theorem uM_12 (g : zGx) (S : zSt) (f : Nat → Int32) : (WM g).2.2 (sA S 12 f) 12 = .inl (g.2.1, 24, .inl f) ∧ ∀ j, j ≠ 12 → (WM g).2.2 (sA S 12 f) j = (WM g).2.2 S j := by
  refine ⟨rfl, fun j hj => ?_⟩
  match j, hj with
  | 0, _ => rfl
  | j + 1, hj =>
    have e : zA (sA S 12 f) (j + 1) = zA S (j + 1) := by simp only [zA, sA, if_neg hj]
    show Sum.inl _ = Sum.inl _
    rw [e]
theorem cM_13 (g : zGx) (S : zSt) : (WM g).2.2 S 13 = .inl (g.2.1, 8, .inl (zA S 13)) := rfl
theorem uM_13 (g : zGx) (S : zSt) (f : Nat → Int32) : (WM g).2.2 (sA S 13 f) 13 = .inl (g.2.1, 8, .inl f) ∧ ∀ j, j ≠ 13 → (WM g).2.2 (sA S 13 f) j = (WM g).2.2 S j := by
  refine ⟨rfl, fun j hj => ?_⟩
  match j, hj with
  | 0, _ => rfl
  | j + 1, hj =>
    have e : zA (sA S 13 f) (j + 1) = zA S (j + 1) := by simp only [zA, sA, if_neg hj]
    show Sum.inl _ = Sum.inl _
    rw [e]
theorem cM_14 (g : zGx) (S : zSt) : (WM g).2.2 S 14 = .inl (g.2.1, 8, .inl (zA S 14)) := rfl
theorem uM_14 (g : zGx) (S : zSt) (f : Nat → Int32) : (WM g).2.2 (sA S 14 f) 14 = .inl (g.2.1, 8, .inl f) ∧ ∀ j, j ≠ 14 → (WM g).2.2 (sA S 14 f) j = (WM g).2.2 S j := by
  refine ⟨rfl, fun j hj => ?_⟩
  match j, hj with
  | 0, _ => rfl
  | j + 1, hj =>
    have e : zA (sA S 14 f) (j + 1) = zA S (j + 1) := by simp only [zA, sA, if_neg hj]
    show Sum.inl _ = Sum.inl _
    rw [e]
theorem cM_15 (g : zGx) (S : zSt) : (WM g).2.2 S 15 = .inl (g.2.2.2.2, 4, .inl (zA S 15)) := rfl
theorem uM_15 (g : zGx) (S : zSt) (f : Nat → Int32) : (WM g).2.2 (sA S 15 f) 15 = .inl (g.2.2.2.2, 4, .inl f) ∧ ∀ j, j ≠ 15 → (WM g).2.2 (sA S 15 f) j = (WM g).2.2 S j := by
  refine ⟨rfl, fun j hj => ?_⟩
  match j, hj with
  | 0, _ => rfl
  | j + 1, hj =>
    have e : zA (sA S 15 f) (j + 1) = zA S (j + 1) := by simp only [zA, sA, if_neg hj]
    show Sum.inl _ = Sum.inl _
    rw [e]
theorem cM_16 (g : zGx) (S : zSt) : (WM g).2.2 S 16 = .inl (g.2.1, 4, .inl (zA S 16)) := rfl
theorem uM_16 (g : zGx) (S : zSt) (f : Nat → Int32) : (WM g).2.2 (sA S 16 f) 16 = .inl (g.2.1, 4, .inl f) ∧ ∀ j, j ≠ 16 → (WM g).2.2 (sA S 16 f) j = (WM g).2.2 S j := by
  refine ⟨rfl, fun j hj => ?_⟩
  match j, hj with
  | 0, _ => rfl
  | j + 1, hj =>
    have e : zA (sA S 16 f) (j + 1) = zA S (j + 1) := by simp only [zA, sA, if_neg hj]
    show Sum.inl _ = Sum.inl _
    rw [e]
theorem cM_17 (g : zGx) (S : zSt) : (WM g).2.2 S 17 = .inl (g.2.1, 4, .inl (zA S 17)) := rfl
theorem uM_17 (g : zGx) (S : zSt) (f : Nat → Int32) : (WM g).2.2 (sA S 17 f) 17 = .inl (g.2.1, 4, .inl f) ∧ ∀ j, j ≠ 17 → (WM g).2.2 (sA S 17 f) j = (WM g).2.2 S j := by
  refine ⟨rfl, fun j hj => ?_⟩
  match j, hj with
  | 0, _ => rfl
  | j + 1, hj =>
    have e : zA (sA S 17 f) (j + 1) = zA S (j + 1) := by simp only [zA, sA, if_neg hj]
    show Sum.inl _ = Sum.inl _
    rw [e]
theorem cM_18 (g : zGx) (S : zSt) : (WM g).2.2 S 18 = .inl (g.2.1, 240, .inl (zA S 18)) := rfl
theorem uM_18 (g : zGx) (S : zSt) (f : Nat → Int32) : (WM g).2.2 (sA S 18 f) 18 = .inl (g.2.1, 240, .inl f) ∧ ∀ j, j ≠ 18 → (WM g).2.2 (sA S 18 f) j = (WM g).2.2 S j := by
  refine ⟨rfl, fun j hj => ?_⟩
  match j, hj with
  | 0, _ => rfl
  | j + 1, hj =>
    have e : zA (sA S 18 f) (j + 1) = zA S (j + 1) := by simp only [zA, sA, if_neg hj]
    show Sum.inl _ = Sum.inl _
    rw [e]
theorem cM_19 (g : zGx) (S : zSt) : (WM g).2.2 S 19 = .inl (g.2.1, 60, .inl (zA S 19)) := rfl
theorem uM_19 (g : zGx) (S : zSt) (f : Nat → Int32) : (WM g).2.2 (sA S 19 f) 19 = .inl (g.2.1, 60, .inl f) ∧ ∀ j, j ≠ 19 → (WM g).2.2 (sA S 19 f) j = (WM g).2.2 S j := by
  refine ⟨rfl, fun j hj => ?_⟩
  match j, hj with
  | 0, _ => rfl
  | j + 1, hj =>
    have e : zA (sA S 19 f) (j + 1) = zA S (j + 1) := by simp only [zA, sA, if_neg hj]
    show Sum.inl _ = Sum.inl _
    rw [e]
theorem pM_0_0 (g : zGx) (S : zSt) (v : Int32) : (WM g).2.2 (sI S 0 v) 0 = .inr (10, ([.int (zI S 0), .ref (g.1 1), .ref (g.1 2), .ref (g.1 3), .int (zI S 1), .ref (g.1 4), .ref (g.1 5), .ref (g.1 6), .int (zI S 2), .ref (g.1 7), .ref (g.1 8), .ref (g.1 9), .int (zI S 3), .int (zI S 4), .ref (g.1 10), .int (zI S 5), .ref (g.1 11), .ref (g.1 12), .ref (g.1 13), .int (zI S 6), .ref (g.1 14), .ref (g.1 15), .ref (g.1 16), .ref (g.1 17), .ref (g.1 18), .ref (g.1 19), .int (zI S 7)] : List Value).set 0 (.int v)) ∧ ∀ j, j ≠ 0 → (WM g).2.2 (sI S 0 v) j = (WM g).2.2 S j := by
  refine ⟨rfl, fun j hj => ?_⟩
  match j, hj with
  | 0, hj => exact absurd rfl hj
  | j + 1, _ => rfl
theorem pM_0_4 (g : zGx) (S : zSt) (v : Int32) : (WM g).2.2 (sI S 1 v) 0 = .inr (10, ([.int (zI S 0), .ref (g.1 1), .ref (g.1 2), .ref (g.1 3), .int (zI S 1), .ref (g.1 4), .ref (g.1 5), .ref (g.1 6), .int (zI S 2), .ref (g.1 7), .ref (g.1 8), .ref (g.1 9), .int (zI S 3), .int (zI S 4), .ref (g.1 10), .int (zI S 5), .ref (g.1 11), .ref (g.1 12), .ref (g.1 13), .int (zI S 6), .ref (g.1 14), .ref (g.1 15), .ref (g.1 16), .ref (g.1 17), .ref (g.1 18), .ref (g.1 19), .int (zI S 7)] : List Value).set 4 (.int v)) ∧ ∀ j, j ≠ 0 → (WM g).2.2 (sI S 1 v) j = (WM g).2.2 S j := by
  refine ⟨rfl, fun j hj => ?_⟩
  match j, hj with
  | 0, hj => exact absurd rfl hj
  | j + 1, _ => rfl
theorem pM_0_8 (g : zGx) (S : zSt) (v : Int32) : (WM g).2.2 (sI S 2 v) 0 = .inr (10, ([.int (zI S 0), .ref (g.1 1), .ref (g.1 2), .ref (g.1 3), .int (zI S 1), .ref (g.1 4), .ref (g.1 5), .ref (g.1 6), .int (zI S 2), .ref (g.1 7), .ref (g.1 8), .ref (g.1 9), .int (zI S 3), .int (zI S 4), .ref (g.1 10), .int (zI S 5), .ref (g.1 11), .ref (g.1 12), .ref (g.1 13), .int (zI S 6), .ref (g.1 14), .ref (g.1 15), .ref (g.1 16), .ref (g.1 17), .ref (g.1 18), .ref (g.1 19), .int (zI S 7)] : List Value).set 8 (.int v)) ∧ ∀ j, j ≠ 0 → (WM g).2.2 (sI S 2 v) j = (WM g).2.2 S j := by
  refine ⟨rfl, fun j hj => ?_⟩
  match j, hj with
  | 0, hj => exact absurd rfl hj
  | j + 1, _ => rfl
theorem pM_0_12 (g : zGx) (S : zSt) (v : Int32) : (WM g).2.2 (sI S 3 v) 0 = .inr (10, ([.int (zI S 0), .ref (g.1 1), .ref (g.1 2), .ref (g.1 3), .int (zI S 1), .ref (g.1 4), .ref (g.1 5), .ref (g.1 6), .int (zI S 2), .ref (g.1 7), .ref (g.1 8), .ref (g.1 9), .int (zI S 3), .int (zI S 4), .ref (g.1 10), .int (zI S 5), .ref (g.1 11), .ref (g.1 12), .ref (g.1 13), .int (zI S 6), .ref (g.1 14), .ref (g.1 15), .ref (g.1 16), .ref (g.1 17), .ref (g.1 18), .ref (g.1 19), .int (zI S 7)] : List Value).set 12 (.int v)) ∧ ∀ j, j ≠ 0 → (WM g).2.2 (sI S 3 v) j = (WM g).2.2 S j := by
  refine ⟨rfl, fun j hj => ?_⟩
  match j, hj with
  | 0, hj => exact absurd rfl hj
  | j + 1, _ => rfl
theorem pM_0_13 (g : zGx) (S : zSt) (v : Int32) : (WM g).2.2 (sI S 4 v) 0 = .inr (10, ([.int (zI S 0), .ref (g.1 1), .ref (g.1 2), .ref (g.1 3), .int (zI S 1), .ref (g.1 4), .ref (g.1 5), .ref (g.1 6), .int (zI S 2), .ref (g.1 7), .ref (g.1 8), .ref (g.1 9), .int (zI S 3), .int (zI S 4), .ref (g.1 10), .int (zI S 5), .ref (g.1 11), .ref (g.1 12), .ref (g.1 13), .int (zI S 6), .ref (g.1 14), .ref (g.1 15), .ref (g.1 16), .ref (g.1 17), .ref (g.1 18), .ref (g.1 19), .int (zI S 7)] : List Value).set 13 (.int v)) ∧ ∀ j, j ≠ 0 → (WM g).2.2 (sI S 4 v) j = (WM g).2.2 S j := by
  refine ⟨rfl, fun j hj => ?_⟩
  match j, hj with
  | 0, hj => exact absurd rfl hj
  | j + 1, _ => rfl
theorem pM_0_15 (g : zGx) (S : zSt) (v : Int32) : (WM g).2.2 (sI S 5 v) 0 = .inr (10, ([.int (zI S 0), .ref (g.1 1), .ref (g.1 2), .ref (g.1 3), .int (zI S 1), .ref (g.1 4), .ref (g.1 5), .ref (g.1 6), .int (zI S 2), .ref (g.1 7), .ref (g.1 8), .ref (g.1 9), .int (zI S 3), .int (zI S 4), .ref (g.1 10), .int (zI S 5), .ref (g.1 11), .ref (g.1 12), .ref (g.1 13), .int (zI S 6), .ref (g.1 14), .ref (g.1 15), .ref (g.1 16), .ref (g.1 17), .ref (g.1 18), .ref (g.1 19), .int (zI S 7)] : List Value).set 15 (.int v)) ∧ ∀ j, j ≠ 0 → (WM g).2.2 (sI S 5 v) j = (WM g).2.2 S j := by
  refine ⟨rfl, fun j hj => ?_⟩
  match j, hj with
  | 0, hj => exact absurd rfl hj
  | j + 1, _ => rfl
theorem pM_0_19 (g : zGx) (S : zSt) (v : Int32) : (WM g).2.2 (sI S 6 v) 0 = .inr (10, ([.int (zI S 0), .ref (g.1 1), .ref (g.1 2), .ref (g.1 3), .int (zI S 1), .ref (g.1 4), .ref (g.1 5), .ref (g.1 6), .int (zI S 2), .ref (g.1 7), .ref (g.1 8), .ref (g.1 9), .int (zI S 3), .int (zI S 4), .ref (g.1 10), .int (zI S 5), .ref (g.1 11), .ref (g.1 12), .ref (g.1 13), .int (zI S 6), .ref (g.1 14), .ref (g.1 15), .ref (g.1 16), .ref (g.1 17), .ref (g.1 18), .ref (g.1 19), .int (zI S 7)] : List Value).set 19 (.int v)) ∧ ∀ j, j ≠ 0 → (WM g).2.2 (sI S 6 v) j = (WM g).2.2 S j := by
  refine ⟨rfl, fun j hj => ?_⟩
  match j, hj with
  | 0, hj => exact absurd rfl hj
  | j + 1, _ => rfl
theorem pM_0_26 (g : zGx) (S : zSt) (v : Int32) : (WM g).2.2 (sI S 7 v) 0 = .inr (10, ([.int (zI S 0), .ref (g.1 1), .ref (g.1 2), .ref (g.1 3), .int (zI S 1), .ref (g.1 4), .ref (g.1 5), .ref (g.1 6), .int (zI S 2), .ref (g.1 7), .ref (g.1 8), .ref (g.1 9), .int (zI S 3), .int (zI S 4), .ref (g.1 10), .int (zI S 5), .ref (g.1 11), .ref (g.1 12), .ref (g.1 13), .int (zI S 6), .ref (g.1 14), .ref (g.1 15), .ref (g.1 16), .ref (g.1 17), .ref (g.1 18), .ref (g.1 19), .int (zI S 7)] : List Value).set 26 (.int v)) ∧ ∀ j, j ≠ 0 → (WM g).2.2 (sI S 7 v) j = (WM g).2.2 S j := by
  refine ⟨rfl, fun j hj => ?_⟩
  match j, hj with
  | 0, hj => exact absurd rfl hj
  | j + 1, _ => rfl
