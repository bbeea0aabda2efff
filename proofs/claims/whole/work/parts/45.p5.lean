theorem m_not {X : zSt} {s z : Nat} (hs : s < 4) (hz : z ≤ 60) (x : zA X 25 s = nI z) (a b : Int32) : (F_X5_hasNotSoMany X (nI s) a b = some 0 ∧ ∃ i n : Nat, a = nI i ∧ b = nI n ∧ i + n ≤ z) ∨ (F_X5_hasNotSoMany X (nI s) a b = some 1 ∧ ¬ ∃ i n : Nat, a = nI i ∧ b = nI n ∧ i + n ≤ z) := by
  unfold F_X5_hasNotSoMany
  rw [ibd_nI hs (by decide), nIN (by omega), x, p_out, Option.bind_some]
  by_cases h : (0 : Int32) ≤ a ∧ a ≤ nI z
  · obtain ⟨i, -, hi, rfl⟩ := rng 0 z rfl rfl (by omega) (by decide) h
    rw [if_pos h, if_pos rfl, ibd_nI hs (by decide), pk_sub hi, p_out, Option.bind_some]
    by_cases h2 : (0 : Int32) ≤ b ∧ b ≤ nI (z - i)
    · obtain ⟨n, -, hn, rfl⟩ := rng 0 (z - i) rfl rfl (by omega) (by decide) h2
      rw [if_pos h2, if_pos rfl]
      exact Or.inl ⟨rfl, i, n, rfl, rfl, by omega⟩
    · rw [if_neg h2, if_neg i01]
      refine Or.inr ⟨rfl, ?_⟩
      rintro ⟨i', n, e1, rfl, e3⟩
      have e4 : i = i' := (nI_eq (a := i) (b := i') (by omega) (by omega)).mp e1
      subst e4
      exact h2 ⟨nI_pos' (by omega), nI_le (by omega) (by omega)⟩
  · rw [if_neg h, if_neg i01]
    refine Or.inr ⟨rfl, ?_⟩
    rintro ⟨i', n, rfl, rfl, e3⟩
    exact h ⟨nI_pos' (by omega), nI_le (by omega) (by omega)⟩
theorem m_sum {i n z : Nat} (hi : i < 2 ^ 31) (hn : n < 2 ^ 31) (hz : z ≤ 60) : (nI z).toInt64 < (nI i).toInt64 + (nI n).toInt64 ↔ z < i + n := by
  rw [nI_l hi, nI_l hn, nI_l (by omega), lN_add, pk_lLT (by omega) (by omega)]
theorem m_l1 {M : zSt} {s i0 n t j0 : Nat} (hs : s < 4) (hn : i0 + n ≤ 60) (k : zSt → Option (Int32 × zSt)) : L_X11_copy_120 (nI s) (nI i0) (nI t) (nI j0) (nI n) k 1000 M (nI 0) = k (itS (fun i S => sA S 19 (upd (zA S 19) i (zA S 18 (60 * s + i0 + i)))) M n) := by
  refine loopN (L := fun f (q : zSt × Int32) => L_X11_copy_120 (nI s) (nI i0) (nI t) (nI j0) (nI n) k f q.1 q.2) (st := fun i => (itS (fun i S => sA S 19 (upd (zA S 19) i (zA S 18 (60 * s + i0 + i)))) M i, nI i)) n _ (fun f => ?_) (fun f i hi => ?_) 1000 0 (by omega) (by omega)
  · show L_X11_copy_120 (nI s) (nI i0) (nI t) (nI j0) (nI n) k (f + 1) _ (nI n) = _
    rw [L_X11_copy_120, if_pos Int32.le_rfl]
  · show L_X11_copy_120 (nI s) (nI i0) (nI t) (nI j0) (nI n) k (f + 1) _ (nI i) = _
    rw [L_X11_copy_120, if_neg (nI_ge hi (by omega)), e60, nI_add, ibd_nI (show 60 * s + i0 + i < 240 by omega) (by decide), ibd_nI (show i < 60 by omega) (by decide), nIN (by omega), nIN (by omega)]
    simp only [lt, nI_1]
    rfl
theorem m_l2 {M : zSt} {n t j0 : Nat} (ht : t < 4) (hn : j0 + n ≤ 60) (k : zSt → Option (Int32 × zSt)) : L_X11_copy_157 (nI t) (nI j0) (nI n) k 1000 M (nI 0) = k (itS (fun i S => sA S 18 (upd (zA S 18) (60 * t + j0 + i) (zA S 19 i))) M n) := by
  refine loopN (L := fun f (q : zSt × Int32) => L_X11_copy_157 (nI t) (nI j0) (nI n) k f q.1 q.2) (st := fun i => (itS (fun i S => sA S 18 (upd (zA S 18) (60 * t + j0 + i) (zA S 19 i))) M i, nI i)) n _ (fun f => ?_) (fun f i hi => ?_) 1000 0 (by omega) (by omega)
  · show L_X11_copy_157 (nI t) (nI j0) (nI n) k (f + 1) _ (nI n) = _
    rw [L_X11_copy_157, if_pos Int32.le_rfl]
  · show L_X11_copy_157 (nI t) (nI j0) (nI n) k (f + 1) _ (nI i) = _
    rw [L_X11_copy_157, if_neg (nI_ge hi (by omega)), e60, nI_add, ibd_nI (show i < 60 by omega) (by decide), ibd_nI (show 60 * t + j0 + i < 240 by omega) (by decide), nIN (by omega), nIN (by omega)]
    simp only [lt, nI_1]
    rfl
theorem m_i1 (M : zSt) (a : Nat) : ∀ n, zA (itS (fun i S => sA S 19 (upd (zA S 19) i (zA S 18 (a + i)))) M n) 18 = zA M 18 ∧ ∀ j, j < n → zA (itS (fun i S => sA S 19 (upd (zA S 19) i (zA S 18 (a + i)))) M n) 19 j = zA M 18 (a + j)
  | 0 => ⟨rfl, fun j hj => by omega⟩
  | n + 1 => by
    obtain ⟨h1, h2⟩ := m_i1 M a n
    refine ⟨h1, fun j hj => ?_⟩
    show zA (sA _ 19 _) 19 j = _
    rw [zA_sA, if_pos rfl, h1]
    by_cases h : j = n
    · subst h; rw [upd_s]
    · rw [upd_n _ _ h]
      exact h2 j (by omega)
theorem m_i2 (M : zSt) (b : Nat) : ∀ n, zA (itS (fun i S => sA S 18 (upd (zA S 18) (b + i) (zA S 19 i))) M n) 19 = zA M 19 ∧ ∀ j, zA (itS (fun i S => sA S 18 (upd (zA S 18) (b + i) (zA S 19 i))) M n) 18 j = if b ≤ j ∧ j < b + n then zA M 19 (j - b) else zA M 18 j
  | 0 => ⟨rfl, fun j => by rw [if_neg (by omega)]; rfl⟩
  | n + 1 => by
    obtain ⟨h1, h2⟩ := m_i2 M b n
    refine ⟨h1, fun j => ?_⟩
    show zA (sA _ 18 _) 18 j = _
    rw [zA_sA, if_pos rfl, h1]
    by_cases h : j = b + n
    · subst h; rw [upd_s, if_pos (by omega), show b + n - b = n by omega]
    · rw [upd_n _ _ h, h2 j]
      by_cases h3 : b ≤ j ∧ j < b + n
      · rw [if_pos h3, if_pos (by omega)]
      · rw [if_neg h3, if_neg (by omega)]
theorem a_copy : ag_copy zR := by
  intro SX SM a1 a2 a3 a4 a5 hR
  unfold F_X10_copy F_X11_copy
  rw [p_out, p_isSheet]
  by_cases h : (0 : Int32) ≤ a1 ∧ a1 ≤ 3
  · obtain ⟨s, -, hs, rfl⟩ := rng 0 3 rfl rfl (by decide) (by decide) h
    have hs4 : s < 4 := by omega
    rw [if_pos h, if_pos h, Option.bind_some, Option.bind_some, if_pos rfl, if_neg i01, p_out, p_isSheet]
    by_cases h2 : (0 : Int32) ≤ a3 ∧ a3 ≤ 3
    · obtain ⟨t, -, ht, rfl⟩ := rng 0 3 rfl rfl (by decide) (by decide) h2
      have ht4 : t < 4 := by omega
      rw [if_pos h2, if_pos h2, Option.bind_some, Option.bind_some, if_pos rfl, if_neg i01]
      simp only [ibd_nI hs4 (show 4 < 2 ^ 31 by decide), ibd_nI ht4 (show 4 < 2 ^ 31 by decide), nIN (show s < 2 ^ 31 by omega), nIN (show t < 2 ^ 31 by omega), jn]
      rcases hR.2.2.2.2.2.2.2.2 s hs4 with ⟨g1, g2⟩ | ⟨n1, f1, y0, y1, y2, y3, y4, y5, y6, y7⟩
      · rw [p_lost0 hs4 g1, Option.bind_some, if_neg i01, g2, if_pos rfl]
        exact ⟨_, _, _, rfl, rfl, h_meets hR _⟩
      · rw [p_lost1 hs4 y2 y0, Option.bind_some, if_pos rfl, y3, if_neg i01]
        rcases hR.2.2.2.2.2.2.2.2 t ht4 with ⟨g1, g2⟩ | ⟨n2, f2, w0, w1, w2, w3, w4, w5, w6, w7⟩
        · rw [p_lost0 ht4 g1, Option.bind_some, if_neg i01, g2, if_pos rfl]
          exact ⟨_, _, _, rfl, rfl, h_meets hR _⟩
        · rw [p_lost1 ht4 w2 w0, Option.bind_some, if_pos rfl, w3, if_neg i01]
          unfold F_X5_areUnlike
          rw [ibd_nI hs4 (by decide), ibd_nI ht4 (by decide), nIN (by omega), nIN (by omega), y5, y6, w5, w6]
          by_cases hff : nI f1 = nI f2
          · rw [if_pos hff, if_pos hff, Option.bind_some, if_pos rfl, y4, w4]
            by_cases C : ∃ i j n : Nat, a2 = nI i ∧ a4 = nI j ∧ a5 = nI n ∧ i + n ≤ n1 ∧ j + n ≤ n2
            · obtain ⟨i, j, n, rfl, rfl, rfl, c1, c2⟩ := C
              have q1 : F_X5_hasNotSoMany SX (nI s) (nI i) (nI n) = some 0 := by
                rcases m_not hs4 y0 y2 (nI i) (nI n) with q | q
                · exact q.1
                · exact absurd ⟨i, n, rfl, rfl, c1⟩ q.2
              have q2 : F_X5_hasNotSoMany SX (nI t) (nI j) (nI n) = some 0 := by
                rcases m_not ht4 w0 w2 (nI j) (nI n) with q | q
                · exact q.1
                · exact absurd ⟨j, n, rfl, rfl, c2⟩ q.2
              rw [q1, Option.bind_some, if_pos rfl, q2, Option.bind_some, if_pos rfl, if_neg (nI_pos (by omega)), if_neg (nI_pos (by omega)), if_neg (nI_pos (by omega)), if_neg (fun q => by rw [lg_pos, m_sum (by omega) (by omega) y0] at q; omega), if_pos (by rw [lg_le, m_sum (by omega) (by omega) w0]; omega)]
              simp only [lt]
              rw [show (0 : Int32) = nI 0 from rfl, m_l1 hs4 (by omega), m_l2 ht4 (by omega)]
              unfold F_X5_move zcp
              rw [ibd_nI hs4 (by decide), ibd_nI ht4 (by decide), nIN (by omega), nIN (by omega), nIN (by omega), nIN (by omega), nIN (by omega), if_neg (by
                have u1 := nI_pos (n := i) (by omega)
                have u2 := nI_pos (n := j) (by omega)
                have u3 := nI_pos (n := n) (by omega)
                rintro ((q | q | q) | q | q)
                · exact u1 q
                · exact u2 q
                · exact u3 q
                · omega
                · omega)]
              simp only [lt, Option.bind_some]
              generalize hM1 : itS (fun i_1 S => sA S 19 (upd (zA S 19) i_1 (zA S 18 (60 * s + i + i_1)))) SM n = M1
              have k1 := m_i1 SM (60 * s + i) n
              rw [hM1] at k1
              have eM1 : eS [] [18, 19] [] SM M1 := by rw [← hM1]; exact itS_eS (fun i S => eS_A (eS_r _ _ _ S) _ _ (by simp)) SM n
              have eM2 : eS [] [18, 19] [] M1 (itS (fun i_1 S => sA S 18 (upd (zA S 18) (60 * t + j + i_1) (zA S 19 i_1))) M1 n) := itS_eS (fun i S => eS_A (eS_r _ _ _ S) _ _ (by simp)) M1 n
              have eM := eS_t eM1 eM2
              have k2 := m_i2 M1 (60 * t + j) n
              refine ⟨_, _, _, rfl, rfl, zR_H (eS_w (eS_A (eS_r [] [42 + t] [] SX) (42 + t) _ (by simp)) (by simp) (by simp; omega) (by simp)) (eS_w eM (by simp) (by simp) (by simp)) hR ⟨?_, fun s' hs' => ?_⟩⟩
              · rw [eM.1 7 (by simp)]; exact hR.2.2.2.2.2.2.2.1
              · rw [eM.2.1 15 (by simp), eM.2.1 16 (by simp), eM.2.1 17 (by simp), zA_sA (j := 25), if_neg (show ¬ (25 : Nat) = 42 + t by omega), zA_sA (j := 24), if_neg (show ¬ (24 : Nat) = 42 + t by omega)]
                rcases hR.2.2.2.2.2.2.2.2 s' hs' with ⟨r1, r2⟩ | ⟨n', f', v0, v1, v2, v3, v4, v5, v6, v7⟩
                · exact Or.inl ⟨r1, r2⟩
                · refine Or.inr ⟨n', f', v0, v1, v2, v3, v4, v5, v6, fun k hk => ?_⟩
                  rw [k2.2, zA_sA]
                  by_cases htt : s' = t
                  · subst htt
                    rw [if_pos rfl]
                    unfold va_cpy
                    by_cases hjk : j ≤ k ∧ k < j + n
                    · rw [if_pos hjk, if_pos (by omega), k1.2 _ (by omega), y7 _ (by omega)]
                      congr 1
                      omega
                    · rw [if_neg hjk, if_neg (by omega), k1.1]
                      exact v7 k hk
                  · rw [if_neg (by omega), if_neg (by omega), k1.1]
                    exact v7 k hk
            · have hx : (F_X5_hasNotSoMany SX (nI s) a2 a5).bind (fun r81 => if r81 = 0 then (F_X5_hasNotSoMany SX (nI t) a4 a5).bind (fun r96 => if r96 = 0 then (F_X5_move SX (nI s) a2 (nI t) a4 a5).bind (fun S122 => some (1, S122)) else (b2 (F_X5_finding SX 2) (fun r107 S107 => some (r107, S107)))) else (b2 (F_X5_finding SX 2) (fun r107 S107 => some (r107, S107)))) = some (-10 - 2, sI SX 9 2) := by
                rcases m_not hs4 y0 y2 a2 a5 with q | q
                · rw [q.1, Option.bind_some, if_pos rfl]
                  rcases m_not ht4 w0 w2 a4 a5 with r | r
                  · exfalso
                    obtain ⟨-, i, n, rfl, rfl, c1⟩ := q
                    obtain ⟨-, j, n', rfl, e, c2⟩ := r
                    refine C ⟨i, j, n, rfl, rfl, rfl, c1, ?_⟩
                    have hn' : n' ≤ 60 := by omega
                    have := (nI_eq (a := n) (b := n') (by omega) (by omega)).mp e
                    omega
                  · rw [r.1, Option.bind_some, if_neg i01]; rfl
                · rw [q.1, Option.bind_some, if_neg i01]; rfl
              rw [hx]
              refine ⟨-10 - 2, sI SX 9 2, sI SM 7 2, rfl, ?_, h_meets hR 2⟩
              by_cases b1 : a2 < 0
              · rw [if_pos b1]; rfl
              rw [if_neg b1]
              by_cases b2' : a4 < 0
              · rw [if_pos b2']; rfl
              rw [if_neg b2']
              by_cases b3 : a5 < 0
              · rw [if_pos b3]; rfl
              rw [if_neg b3]
              obtain ⟨i, hi, rfl⟩ := nI_of b1
              obtain ⟨j, hj, rfl⟩ := nI_of b2'
              obtain ⟨n, hn, rfl⟩ := nI_of b3
              by_cases c1 : n1 < i + n
              · rw [if_pos (by rw [lg_pos, m_sum hi hn y0]; exact c1)]; rfl
              rw [if_neg (fun q => by rw [lg_pos, m_sum hi hn y0] at q; omega)]
              by_cases c2 : n2 < j + n
              · rw [if_neg (fun q => by rw [lg_le, m_sum hj hn w0] at q; omega)]; rfl
              exact absurd ⟨i, j, n, rfl, rfl, rfl, by omega, by omega⟩ C
          · rw [if_neg hff, if_neg hff, Option.bind_some, if_neg i01]
            exact ⟨_, _, _, rfl, rfl, h_meets hR _⟩
    · rw [if_neg h2, if_neg h2, Option.bind_some, Option.bind_some, if_neg i01, if_pos rfl]
      exact ⟨_, _, _, rfl, rfl, hR⟩
  · rw [if_neg h, if_neg h, Option.bind_some, Option.bind_some, if_neg i01, if_pos rfl]
    exact ⟨_, _, _, rfl, rfl, hR⟩
