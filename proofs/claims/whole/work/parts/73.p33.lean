-- digest
theorem gd_of {α : Type} {o1 o2 : Option α} (d : α) (h : ∃ r, o1 = some r ∧ o2 = some r) : o1 = some (o2.getD d) ∧ o2 = some (o2.getD d) := by
  obtain ⟨r, h1, h2⟩ := h
  rw [h1, h2]
  exact ⟨rfl, rfl⟩
def hq (c : Nat → Int64) (h : Int64) : Nat → Int64
  | 0 => h
  | i + 1 => 31 * hq c h i + c i
def hr2 (c : Nat → Nat → Int64) (h : Int64) : Nat → Int64
  | 0 => h
  | j + 1 => 31 * (31 * hr2 c h j + c j 0) + c j 1
theorem p01 {i : Nat} (h : i < 2) : (0 : Int32) ≤ nI i ∧ nI i ≤ 1 := rng' (a := 0) (b := 1) (by omega) (by omega) (by decide)
theorem d_count {X M : zSt} (hR : zR X M) (h : Int64) : ∃ v, (∀ k, L_X10_digest_6 X k 1000 h 0 = k v) ∧ ∀ k, L_X11_digest_6 M k 1000 h 0 = k v := by
  have c : ∀ i, i < 8 → F_X10_count X (nI i) = some ((F_X11_count M (nI i)).getD 0) ∧ F_X11_count M (nI i) = some ((F_X11_count M (nI i)).getD 0) := fun i hi => gd_of 0 (a_count X M (nI i) hR)
  refine ⟨hq (fun i => ((F_X11_count M (nI i)).getD 0).toInt64) h 8, fun k => ?_, fun k => ?_⟩
  · refine loopN (L := fun f (q : Int64 × Int32) => L_X10_digest_6 X k f q.1 q.2) (st := fun i => (hq (fun i => ((F_X11_count M (nI i)).getD 0).toInt64) h i, nI i)) 8 _ (fun f => ?_) (fun f i hi => ?_) 1000 0 (by omega) (by omega)
    · show L_X10_digest_6 X k (f + 1) _ (nI 8) = _
      rw [L_X10_digest_6, if_pos (by decide)]
    · show L_X10_digest_6 X k (f + 1) (hq (fun i => ((F_X11_count M (nI i)).getD 0).toInt64) h i) (nI i) = L_X10_digest_6 X k f (31 * hq (fun i => ((F_X11_count M (nI i)).getD 0).toInt64) h i + ((F_X11_count M (nI i)).getD 0).toInt64) (nI (i + 1))
      rw [L_X10_digest_6, if_neg (show ¬ (7 : Int32) < nI i from nI_nlt (a := 7) (b := i) (by omega) (by decide)), show F_X10_count X (nI i) = some _ from (c i hi).1, Option.bind_some]
      simp only [F_X10_behind, lt, nI_1, Option.bind_some]
  · refine loopN (L := fun f (q : Int64 × Int32) => L_X11_digest_6 M k f q.1 q.2) (st := fun i => (hq (fun i => ((F_X11_count M (nI i)).getD 0).toInt64) h i, nI i)) 8 _ (fun f => ?_) (fun f i hi => ?_) 1000 0 (by omega) (by omega)
    · show L_X11_digest_6 M k (f + 1) _ (nI 8) = _
      rw [L_X11_digest_6, if_pos (by decide)]
    · show L_X11_digest_6 M k (f + 1) (hq (fun i => ((F_X11_count M (nI i)).getD 0).toInt64) h i) (nI i) = L_X11_digest_6 M k f (31 * hq (fun i => ((F_X11_count M (nI i)).getD 0).toInt64) h i + ((F_X11_count M (nI i)).getD 0).toInt64) (nI (i + 1))
      rw [L_X11_digest_6, if_neg (show ¬ (8 : Int32) ≤ nI i from nI_ge (b := 8) hi (by decide)), show F_X11_count M (nI i) = some _ from (c i hi).2, Option.bind_some]
      simp only [lt, nI_1, Option.getD_some]
theorem d_ward {X M : zSt} (hR : zR X M) (h : Int64) : ∃ v, (∀ k, L_X10_digest_174 X k 1000 h 0 = k v) ∧ ∀ k, L_X11_digest_184 M k 1000 h 0 = k v := by
  have c : ∀ i, i < 4 → F_X10_ward X (nI 10) (nI 30) (nI i) = some ((F_X11_wardNow M (nI 10) (nI 30) (nI i)).getD 0) ∧ F_X11_wardNow M (nI 10) (nI 30) (nI i) = some ((F_X11_wardNow M (nI 10) (nI 30) (nI i)).getD 0) := fun i hi => gd_of 0 (w_ward hR (a := 10) (b := 30) (k := i) (by omega) (by omega) (by omega))
  refine ⟨hq (fun i => ((F_X11_wardNow M (nI 10) (nI 30) (nI i)).getD 0).toInt64) h 4, fun k => ?_, fun k => ?_⟩
  · refine loopN (L := fun f (q : Int64 × Int32) => L_X10_digest_174 X k f q.1 q.2) (st := fun i => (hq (fun i => ((F_X11_wardNow M (nI 10) (nI 30) (nI i)).getD 0).toInt64) h i, nI i)) 4 _ (fun f => ?_) (fun f i hi => ?_) 1000 0 (by omega) (by omega)
    · show L_X10_digest_174 X k (f + 1) _ (nI 4) = _
      rw [L_X10_digest_174, if_pos (by decide)]
    · show L_X10_digest_174 X k (f + 1) (hq (fun i => ((F_X11_wardNow M (nI 10) (nI 30) (nI i)).getD 0).toInt64) h i) (nI i) = L_X10_digest_174 X k f (31 * hq (fun i => ((F_X11_wardNow M (nI 10) (nI 30) (nI i)).getD 0).toInt64) h i + ((F_X11_wardNow M (nI 10) (nI 30) (nI i)).getD 0).toInt64) (nI (i + 1))
      rw [L_X10_digest_174, if_neg (show ¬ (3 : Int32) < nI i from nI_nlt (a := 3) (b := i) (by omega) (by decide)), show F_X10_ward X 10 30 (nI i) = some _ from (c i hi).1, Option.bind_some]
      simp only [F_X10_behind, lt, nI_1, Option.bind_some]
  · refine loopN (L := fun f (q : Int64 × Int32) => L_X11_digest_184 M k f q.1 q.2) (st := fun i => (hq (fun i => ((F_X11_wardNow M (nI 10) (nI 30) (nI i)).getD 0).toInt64) h i, nI i)) 4 _ (fun f => ?_) (fun f i hi => ?_) 1000 0 (by omega) (by omega)
    · show L_X11_digest_184 M k (f + 1) _ (nI 4) = _
      rw [L_X11_digest_184, if_pos (by decide)]
    · show L_X11_digest_184 M k (f + 1) (hq (fun i => ((F_X11_wardNow M (nI 10) (nI 30) (nI i)).getD 0).toInt64) h i) (nI i) = L_X11_digest_184 M k f (31 * hq (fun i => ((F_X11_wardNow M (nI 10) (nI 30) (nI i)).getD 0).toInt64) h i + ((F_X11_wardNow M (nI 10) (nI 30) (nI i)).getD 0).toInt64) (nI (i + 1))
      rw [L_X11_digest_184, if_neg (show ¬ (4 : Int32) ≤ nI i from nI_ge (b := 4) hi (by decide)), show F_X11_wardNow M 10 30 (nI i) = some _ from (c i hi).2, Option.bind_some]
      simp only [lt, nI_1, Option.getD_some]
theorem d_full {X M : zSt} (hR : zR X M) (h : Int64) : ∃ v, (∀ k, L_X10_digest_246 X k 1000 h 0 = k v) ∧ ∀ k, L_X11_digest_262 M k 1000 h 0 = k v := by
  have c : ∀ i, i < 3 → F_X10_fullest X (nI i) = some ((F_X11_fullestNow M (nI i)).getD 0) ∧ F_X11_fullestNow M (nI i) = some ((F_X11_fullestNow M (nI i)).getD 0) := fun i hi => gd_of 0 (f_full hR (k := i) (by omega))
  refine ⟨hq (fun i => ((F_X11_fullestNow M (nI i)).getD 0).toInt64) h 3, fun k => ?_, fun k => ?_⟩
  · refine loopN (L := fun f (q : Int64 × Int32) => L_X10_digest_246 X k f q.1 q.2) (st := fun i => (hq (fun i => ((F_X11_fullestNow M (nI i)).getD 0).toInt64) h i, nI i)) 3 _ (fun f => ?_) (fun f i hi => ?_) 1000 0 (by omega) (by omega)
    · show L_X10_digest_246 X k (f + 1) _ (nI 3) = _
      rw [L_X10_digest_246, if_pos (by decide)]
    · show L_X10_digest_246 X k (f + 1) (hq (fun i => ((F_X11_fullestNow M (nI i)).getD 0).toInt64) h i) (nI i) = L_X10_digest_246 X k f (31 * hq (fun i => ((F_X11_fullestNow M (nI i)).getD 0).toInt64) h i + ((F_X11_fullestNow M (nI i)).getD 0).toInt64) (nI (i + 1))
      rw [L_X10_digest_246, if_neg (show ¬ (2 : Int32) < nI i from nI_nlt (a := 2) (b := i) (by omega) (by decide)), show F_X10_fullest X (nI i) = some _ from (c i hi).1, Option.bind_some]
      simp only [F_X10_behind, lt, nI_1, Option.bind_some]
  · refine loopN (L := fun f (q : Int64 × Int32) => L_X11_digest_262 M k f q.1 q.2) (st := fun i => (hq (fun i => ((F_X11_fullestNow M (nI i)).getD 0).toInt64) h i, nI i)) 3 _ (fun f => ?_) (fun f i hi => ?_) 1000 0 (by omega) (by omega)
    · show L_X11_digest_262 M k (f + 1) _ (nI 3) = _
      rw [L_X11_digest_262, if_pos (by decide)]
    · show L_X11_digest_262 M k (f + 1) (hq (fun i => ((F_X11_fullestNow M (nI i)).getD 0).toInt64) h i) (nI i) = L_X11_digest_262 M k f (31 * hq (fun i => ((F_X11_fullestNow M (nI i)).getD 0).toInt64) h i + ((F_X11_fullestNow M (nI i)).getD 0).toInt64) (nI (i + 1))
      rw [L_X11_digest_262, if_neg (show ¬ (3 : Int32) ≤ nI i from nI_ge (b := 3) hi (by decide)), show F_X11_fullestNow M (nI i) = some _ from (c i hi).2, Option.bind_some]
      simp only [lt, nI_1, Option.getD_some]
theorem d_gap2 {X M : zSt} (hR : zR X M) {w : Nat} (hw : w ≤ 2) (h : Int64) : ∃ v, (∀ k, L_X10_digest_49 X (nI w) k 1000 h 0 = k v) ∧ ∀ k, L_X11_digest_53 M (nI w) k 1000 h 0 = k v := by
  have c : ∀ j i, j < 3 → i < 2 → F_X10_gaps X (nI w) (nI j) (nI i) = some ((F_X11_gapsNow M (nI w) (nI j) (nI i)).getD 0) ∧ F_X11_gapsNow M (nI w) (nI j) (nI i) = some ((F_X11_gapsNow M (nI w) (nI j) (nI i)).getD 0) := fun j i hj hi => gd_of 0 (e_gaps hR hw (k := j) (by omega) (p01 hi))
  refine ⟨hr2 (fun j i => (F_X11_gapsNow M (nI w) (nI j) (nI i)).getD 0) h 3, fun k => ?_, fun k => ?_⟩
  · refine loopN (L := fun f (q : Int64 × Int32) => L_X10_digest_49 X (nI w) k f q.1 q.2) (st := fun j => (hr2 (fun j i => (F_X11_gapsNow M (nI w) (nI j) (nI i)).getD 0) h j, nI j)) 3 _ (fun f => ?_) (fun f j hj => ?_) 1000 0 (by omega) (by omega)
    · show L_X10_digest_49 X (nI w) k (f + 1) _ (nI 3) = _
      rw [L_X10_digest_49, if_pos (by decide)]
    · show L_X10_digest_49 X (nI w) k (f + 1) (hr2 (fun j i => (F_X11_gapsNow M (nI w) (nI j) (nI i)).getD 0) h j) (nI j) = L_X10_digest_49 X (nI w) k f (31 * (31 * hr2 (fun j i => (F_X11_gapsNow M (nI w) (nI j) (nI i)).getD 0) h j + (F_X11_gapsNow M (nI w) (nI j) (nI 0)).getD 0) + (F_X11_gapsNow M (nI w) (nI j) (nI 1)).getD 0) (nI (j + 1))
      rw [L_X10_digest_49, if_neg (show ¬ (2 : Int32) < nI j from nI_nlt (a := 2) (b := j) (by omega) (by decide))]
      refine (lt_eq _ _).trans ?_
      have c0 : F_X10_gaps X (nI w) (nI j) 0 = some _ := (c j 0 hj (by omega)).1
      have c1 : F_X10_gaps X (nI w) (nI j) 1 = some _ := (c j 1 hj (by omega)).1
      have inn : ∀ (kk : Int64 → Option (Int64 × zSt)) (f : Nat) (g : Int64), L_X10_digest_58 X (nI w) (nI j) kk (f + 3) g 0 = kk (31 * (31 * g + (F_X11_gapsNow M (nI w) (nI j) (nI 0)).getD 0) + (F_X11_gapsNow M (nI w) (nI j) (nI 1)).getD 0) := fun kk f g => by
        rw [L_X10_digest_58, if_neg (by decide), c0, Option.bind_some]
        simp only [F_X10_behind, lt, Option.bind_some]
        rw [show (0 : Int32) + 1 = 1 by decide, L_X10_digest_58, if_neg (by decide), c1, Option.bind_some]
        simp only [F_X10_behind, lt, Option.bind_some]
        rw [show (1 : Int32) + 1 = 2 by decide, L_X10_digest_58, if_pos (by decide)]
      refine (inn _ 997 _).trans ?_
      refine (lt_eq _ _).trans ?_
      rw [nI_1]
  · refine loopN (L := fun f (q : Int64 × Int32) => L_X11_digest_53 M (nI w) k f q.1 q.2) (st := fun j => (hr2 (fun j i => (F_X11_gapsNow M (nI w) (nI j) (nI i)).getD 0) h j, nI j)) 3 _ (fun f => ?_) (fun f j hj => ?_) 1000 0 (by omega) (by omega)
    · show L_X11_digest_53 M (nI w) k (f + 1) _ (nI 3) = _
      rw [L_X11_digest_53, if_pos (by decide)]
    · show L_X11_digest_53 M (nI w) k (f + 1) (hr2 (fun j i => (F_X11_gapsNow M (nI w) (nI j) (nI i)).getD 0) h j) (nI j) = L_X11_digest_53 M (nI w) k f (31 * (31 * hr2 (fun j i => (F_X11_gapsNow M (nI w) (nI j) (nI i)).getD 0) h j + (F_X11_gapsNow M (nI w) (nI j) (nI 0)).getD 0) + (F_X11_gapsNow M (nI w) (nI j) (nI 1)).getD 0) (nI (j + 1))
      have c0 : F_X11_gapsNow M (nI w) (nI j) 0 = some _ := (c j 0 hj (by omega)).2
      have c1 : F_X11_gapsNow M (nI w) (nI j) 1 = some _ := (c j 1 hj (by omega)).2
      rw [L_X11_digest_53, if_neg (show ¬ (3 : Int32) ≤ nI j from nI_ge (b := 3) hj (by decide)), c0, Option.bind_some]
      refine (lt_eq _ _).trans ?_
      rw [c1, Option.bind_some]
      simp only [lt, nI_1]
theorem d_size {X M : zSt} (hR : zR X M) (h : Int64) : ∃ v, (∀ k, L_X10_digest_124 X k 1000 h 0 = k v) ∧ ∀ k, L_X11_digest_133 M k 1000 h 0 = k v := by
  have c : ∀ j i, j < 2 → i < 2 → F_X10_size X (nI j) (nI i) = some ((F_X11_sizeNow M (nI j) (nI i)).getD 0) ∧ F_X11_sizeNow M (nI j) (nI i) = some ((F_X11_sizeNow M (nI j) (nI i)).getD 0) := fun j i hj hi => gd_of 0 (s_si hR (k := j) (by omega) (p01 hi))
  refine ⟨hr2 (fun j i => (F_X11_sizeNow M (nI j) (nI i)).getD 0) h 2, fun k => ?_, fun k => ?_⟩
  · refine loopN (L := fun f (q : Int64 × Int32) => L_X10_digest_124 X k f q.1 q.2) (st := fun j => (hr2 (fun j i => (F_X11_sizeNow M (nI j) (nI i)).getD 0) h j, nI j)) 2 _ (fun f => ?_) (fun f j hj => ?_) 1000 0 (by omega) (by omega)
    · show L_X10_digest_124 X k (f + 1) _ (nI 2) = _
      rw [L_X10_digest_124, if_pos (by decide)]
    · show L_X10_digest_124 X k (f + 1) (hr2 (fun j i => (F_X11_sizeNow M (nI j) (nI i)).getD 0) h j) (nI j) = L_X10_digest_124 X k f (31 * (31 * hr2 (fun j i => (F_X11_sizeNow M (nI j) (nI i)).getD 0) h j + (F_X11_sizeNow M (nI j) (nI 0)).getD 0) + (F_X11_sizeNow M (nI j) (nI 1)).getD 0) (nI (j + 1))
      rw [L_X10_digest_124, if_neg (show ¬ (1 : Int32) < nI j from nI_nlt (a := 1) (b := j) (by omega) (by decide))]
      refine (lt_eq _ _).trans ?_
      have c0 : F_X10_size X (nI j) 0 = some _ := (c j 0 hj (by omega)).1
      have c1 : F_X10_size X (nI j) 1 = some _ := (c j 1 hj (by omega)).1
      have inn : ∀ (kk : Int64 → Option (Int64 × zSt)) (f : Nat) (g : Int64), L_X10_digest_132 X (nI j) kk (f + 3) g 0 = kk (31 * (31 * g + (F_X11_sizeNow M (nI j) (nI 0)).getD 0) + (F_X11_sizeNow M (nI j) (nI 1)).getD 0) := fun kk f g => by
        rw [L_X10_digest_132, if_neg (by decide), c0, Option.bind_some]
        simp only [F_X10_behind, lt, Option.bind_some]
        rw [show (0 : Int32) + 1 = 1 by decide, L_X10_digest_132, if_neg (by decide), c1, Option.bind_some]
        simp only [F_X10_behind, lt, Option.bind_some]
        rw [show (1 : Int32) + 1 = 2 by decide, L_X10_digest_132, if_pos (by decide)]
      refine (inn _ 997 _).trans ?_
      refine (lt_eq _ _).trans ?_
      rw [nI_1]
  · refine loopN (L := fun f (q : Int64 × Int32) => L_X11_digest_133 M k f q.1 q.2) (st := fun j => (hr2 (fun j i => (F_X11_sizeNow M (nI j) (nI i)).getD 0) h j, nI j)) 2 _ (fun f => ?_) (fun f j hj => ?_) 1000 0 (by omega) (by omega)
    · show L_X11_digest_133 M k (f + 1) _ (nI 2) = _
      rw [L_X11_digest_133, if_pos (by decide)]
    · show L_X11_digest_133 M k (f + 1) (hr2 (fun j i => (F_X11_sizeNow M (nI j) (nI i)).getD 0) h j) (nI j) = L_X11_digest_133 M k f (31 * (31 * hr2 (fun j i => (F_X11_sizeNow M (nI j) (nI i)).getD 0) h j + (F_X11_sizeNow M (nI j) (nI 0)).getD 0) + (F_X11_sizeNow M (nI j) (nI 1)).getD 0) (nI (j + 1))
      have c0 : F_X11_sizeNow M (nI j) 0 = some _ := (c j 0 hj (by omega)).2
      have c1 : F_X11_sizeNow M (nI j) 1 = some _ := (c j 1 hj (by omega)).2
      rw [L_X11_digest_133, if_neg (show ¬ (2 : Int32) ≤ nI j from nI_ge (b := 2) hj (by decide)), c0, Option.bind_some]
      refine (lt_eq _ _).trans ?_
      rw [c1, Option.bind_some]
      simp only [lt, nI_1]
theorem d_means {X M : zSt} (hR : zR X M) (h : Int64) : ∃ v, (∀ k, L_X10_digest_202 X k 1000 h 0 = k v) ∧ ∀ k, L_X11_digest_214 M k 1000 h 0 = k v := by
  have c : ∀ j i, j < 6 → i < 2 → F_X10_means X (nI 10) (nI 30) (nI j) (nI i) = some ((F_X11_meansNow M (nI 10) (nI 30) (nI j) (nI i)).getD 0) ∧ F_X11_meansNow M (nI 10) (nI 30) (nI j) (nI i) = some ((F_X11_meansNow M (nI 10) (nI 30) (nI j) (nI i)).getD 0) := fun j i hj hi => gd_of 0 (w_means hR (a := 10) (b := 30) (k := j) (by omega) (by omega) (by omega) (p01 hi))
  refine ⟨hr2 (fun j i => (F_X11_meansNow M (nI 10) (nI 30) (nI j) (nI i)).getD 0) h 6, fun k => ?_, fun k => ?_⟩
  · refine loopN (L := fun f (q : Int64 × Int32) => L_X10_digest_202 X k f q.1 q.2) (st := fun j => (hr2 (fun j i => (F_X11_meansNow M (nI 10) (nI 30) (nI j) (nI i)).getD 0) h j, nI j)) 6 _ (fun f => ?_) (fun f j hj => ?_) 1000 0 (by omega) (by omega)
    · show L_X10_digest_202 X k (f + 1) _ (nI 6) = _
      rw [L_X10_digest_202, if_pos (by decide)]
    · show L_X10_digest_202 X k (f + 1) (hr2 (fun j i => (F_X11_meansNow M (nI 10) (nI 30) (nI j) (nI i)).getD 0) h j) (nI j) = L_X10_digest_202 X k f (31 * (31 * hr2 (fun j i => (F_X11_meansNow M (nI 10) (nI 30) (nI j) (nI i)).getD 0) h j + (F_X11_meansNow M (nI 10) (nI 30) (nI j) (nI 0)).getD 0) + (F_X11_meansNow M (nI 10) (nI 30) (nI j) (nI 1)).getD 0) (nI (j + 1))
      rw [L_X10_digest_202, if_neg (show ¬ (5 : Int32) < nI j from nI_nlt (a := 5) (b := j) (by omega) (by decide))]
      refine (lt_eq _ _).trans ?_
      have c0 : F_X10_means X 10 30 (nI j) 0 = some _ := (c j 0 hj (by omega)).1
      have c1 : F_X10_means X 10 30 (nI j) 1 = some _ := (c j 1 hj (by omega)).1
      have inn : ∀ (kk : Int64 → Option (Int64 × zSt)) (f : Nat) (g : Int64), L_X10_digest_210 X (nI j) kk (f + 3) g 0 = kk (31 * (31 * g + (F_X11_meansNow M (nI 10) (nI 30) (nI j) (nI 0)).getD 0) + (F_X11_meansNow M (nI 10) (nI 30) (nI j) (nI 1)).getD 0) := fun kk f g => by
        rw [L_X10_digest_210, if_neg (by decide), c0, Option.bind_some]
        simp only [F_X10_behind, lt, Option.bind_some]
        rw [show (0 : Int32) + 1 = 1 by decide, L_X10_digest_210, if_neg (by decide), c1, Option.bind_some]
        simp only [F_X10_behind, lt, Option.bind_some]
        rw [show (1 : Int32) + 1 = 2 by decide, L_X10_digest_210, if_pos (by decide)]
      refine (inn _ 997 _).trans ?_
      refine (lt_eq _ _).trans ?_
      rw [nI_1]
  · refine loopN (L := fun f (q : Int64 × Int32) => L_X11_digest_214 M k f q.1 q.2) (st := fun j => (hr2 (fun j i => (F_X11_meansNow M (nI 10) (nI 30) (nI j) (nI i)).getD 0) h j, nI j)) 6 _ (fun f => ?_) (fun f j hj => ?_) 1000 0 (by omega) (by omega)
    · show L_X11_digest_214 M k (f + 1) _ (nI 6) = _
      rw [L_X11_digest_214, if_pos (by decide)]
    · show L_X11_digest_214 M k (f + 1) (hr2 (fun j i => (F_X11_meansNow M (nI 10) (nI 30) (nI j) (nI i)).getD 0) h j) (nI j) = L_X11_digest_214 M k f (31 * (31 * hr2 (fun j i => (F_X11_meansNow M (nI 10) (nI 30) (nI j) (nI i)).getD 0) h j + (F_X11_meansNow M (nI 10) (nI 30) (nI j) (nI 0)).getD 0) + (F_X11_meansNow M (nI 10) (nI 30) (nI j) (nI 1)).getD 0) (nI (j + 1))
      have c0 : F_X11_meansNow M 10 30 (nI j) 0 = some _ := (c j 0 hj (by omega)).2
      have c1 : F_X11_meansNow M 10 30 (nI j) 1 = some _ := (c j 1 hj (by omega)).2
      rw [L_X11_digest_214, if_neg (show ¬ (6 : Int32) ≤ nI j from nI_ge (b := 6) hj (by decide)), c0, Option.bind_some]
      refine (lt_eq _ _).trans ?_
      rw [c1, Option.bind_some]
      simp only [lt, nI_1]
theorem d_mean {X M : zSt} (hR : zR X M) (h : Int64) : ∃ v, (∀ k, L_X10_digest_270 X k 1000 h 0 = k v) ∧ ∀ k, L_X11_digest_288 M k 1000 h 0 = k v := by
  have c : ∀ j i, j < 3 → i < 2 → F_X10_mean X (nI j) (nI i) = some ((F_X11_meanNow M (nI j) (nI i)).getD 0) ∧ F_X11_meanNow M (nI j) (nI i) = some ((F_X11_meanNow M (nI j) (nI i)).getD 0) := fun j i hj hi => gd_of 0 (v_mean hR (k := j) (by omega) (p01 hi))
  refine ⟨hr2 (fun j i => (F_X11_meanNow M (nI j) (nI i)).getD 0) h 3, fun k => ?_, fun k => ?_⟩
  · refine loopN (L := fun f (q : Int64 × Int32) => L_X10_digest_270 X k f q.1 q.2) (st := fun j => (hr2 (fun j i => (F_X11_meanNow M (nI j) (nI i)).getD 0) h j, nI j)) 3 _ (fun f => ?_) (fun f j hj => ?_) 1000 0 (by omega) (by omega)
    · show L_X10_digest_270 X k (f + 1) _ (nI 3) = _
      rw [L_X10_digest_270, if_pos (by decide)]
    · show L_X10_digest_270 X k (f + 1) (hr2 (fun j i => (F_X11_meanNow M (nI j) (nI i)).getD 0) h j) (nI j) = L_X10_digest_270 X k f (31 * (31 * hr2 (fun j i => (F_X11_meanNow M (nI j) (nI i)).getD 0) h j + (F_X11_meanNow M (nI j) (nI 0)).getD 0) + (F_X11_meanNow M (nI j) (nI 1)).getD 0) (nI (j + 1))
      rw [L_X10_digest_270, if_neg (show ¬ (2 : Int32) < nI j from nI_nlt (a := 2) (b := j) (by omega) (by decide))]
      refine (lt_eq _ _).trans ?_
      have c0 : F_X10_mean X (nI j) 0 = some _ := (c j 0 hj (by omega)).1
      have c1 : F_X10_mean X (nI j) 1 = some _ := (c j 1 hj (by omega)).1
      have inn : ∀ (kk : Int64 → Option (Int64 × zSt)) (f : Nat) (g : Int64), L_X10_digest_278 X (nI j) kk (f + 3) g 0 = kk (31 * (31 * g + (F_X11_meanNow M (nI j) (nI 0)).getD 0) + (F_X11_meanNow M (nI j) (nI 1)).getD 0) := fun kk f g => by
        rw [L_X10_digest_278, if_neg (by decide), c0, Option.bind_some]
        simp only [F_X10_behind, lt, Option.bind_some]
        rw [show (0 : Int32) + 1 = 1 by decide, L_X10_digest_278, if_neg (by decide), c1, Option.bind_some]
        simp only [F_X10_behind, lt, Option.bind_some]
        rw [show (1 : Int32) + 1 = 2 by decide, L_X10_digest_278, if_pos (by decide)]
      refine (inn _ 997 _).trans ?_
      refine (lt_eq _ _).trans ?_
      rw [nI_1]
  · refine loopN (L := fun f (q : Int64 × Int32) => L_X11_digest_288 M k f q.1 q.2) (st := fun j => (hr2 (fun j i => (F_X11_meanNow M (nI j) (nI i)).getD 0) h j, nI j)) 3 _ (fun f => ?_) (fun f j hj => ?_) 1000 0 (by omega) (by omega)
    · show L_X11_digest_288 M k (f + 1) _ (nI 3) = _
      rw [L_X11_digest_288, if_pos (by decide)]
    · show L_X11_digest_288 M k (f + 1) (hr2 (fun j i => (F_X11_meanNow M (nI j) (nI i)).getD 0) h j) (nI j) = L_X11_digest_288 M k f (31 * (31 * hr2 (fun j i => (F_X11_meanNow M (nI j) (nI i)).getD 0) h j + (F_X11_meanNow M (nI j) (nI 0)).getD 0) + (F_X11_meanNow M (nI j) (nI 1)).getD 0) (nI (j + 1))
      have c0 : F_X11_meanNow M (nI j) 0 = some _ := (c j 0 hj (by omega)).2
      have c1 : F_X11_meanNow M (nI j) 1 = some _ := (c j 1 hj (by omega)).2
      rw [L_X11_digest_288, if_neg (show ¬ (3 : Int32) ≤ nI j from nI_ge (b := 3) hj (by decide)), c0, Option.bind_some]
      refine (lt_eq _ _).trans ?_
      rw [c1, Option.bind_some]
      simp only [lt, nI_1]
theorem d_sg {X M : zSt} (hR : zR X M) {c : Nat} (hc : c ≤ 2) {w : Int32} (hw : (0 : Int32) ≤ w ∧ w ≤ 1) : ∃ r, F_X10_stick X (nI c) (nI 1) w = some r ∧ F_X11_stickNow M (nI c) (nI 1) w = some r := by
  obtain ⟨n, len, r0, r1, r2, r3⟩ := hR.2.2.2.2.2.2.1
  exact m_stick (g := ⟨r0, r1, r2, r3⟩) hc (Nat.le_refl 1) (by split <;> omega) hw
theorem d_stick {X M : zSt} (hR : zR X M) (h : Int64) : ∃ v, (∀ k, L_X10_digest_332 X k 1000 h 0 = k v) ∧ ∀ k, L_X11_digest_353 M k 1000 h 0 = k v := by
  have c : ∀ j i, j < 3 → i < 2 → F_X10_stick X (nI j) (nI 1) (nI i) = some ((F_X11_stickNow M (nI j) (nI 1) (nI i)).getD 0) ∧ F_X11_stickNow M (nI j) (nI 1) (nI i) = some ((F_X11_stickNow M (nI j) (nI 1) (nI i)).getD 0) := fun j i hj hi => gd_of 0 ((d_sg hR (c := j) (by omega) (p01 hi)))
  refine ⟨hr2 (fun j i => (F_X11_stickNow M (nI j) (nI 1) (nI i)).getD 0) h 3, fun k => ?_, fun k => ?_⟩
  · refine loopN (L := fun f (q : Int64 × Int32) => L_X10_digest_332 X k f q.1 q.2) (st := fun j => (hr2 (fun j i => (F_X11_stickNow M (nI j) (nI 1) (nI i)).getD 0) h j, nI j)) 3 _ (fun f => ?_) (fun f j hj => ?_) 1000 0 (by omega) (by omega)
    · show L_X10_digest_332 X k (f + 1) _ (nI 3) = _
      rw [L_X10_digest_332, if_pos (by decide)]
    · show L_X10_digest_332 X k (f + 1) (hr2 (fun j i => (F_X11_stickNow M (nI j) (nI 1) (nI i)).getD 0) h j) (nI j) = L_X10_digest_332 X k f (31 * (31 * hr2 (fun j i => (F_X11_stickNow M (nI j) (nI 1) (nI i)).getD 0) h j + (F_X11_stickNow M (nI j) (nI 1) (nI 0)).getD 0) + (F_X11_stickNow M (nI j) (nI 1) (nI 1)).getD 0) (nI (j + 1))
      rw [L_X10_digest_332, if_neg (show ¬ (2 : Int32) < nI j from nI_nlt (a := 2) (b := j) (by omega) (by decide))]
      refine (lt_eq _ _).trans ?_
      have c0 : F_X10_stick X (nI j) 1 0 = some _ := (c j 0 hj (by omega)).1
      have c1 : F_X10_stick X (nI j) 1 1 = some _ := (c j 1 hj (by omega)).1
      have inn : ∀ (kk : Int64 → Option (Int64 × zSt)) (f : Nat) (g : Int64), L_X10_digest_340 X (nI j) kk (f + 3) g 0 = kk (31 * (31 * g + (F_X11_stickNow M (nI j) (nI 1) (nI 0)).getD 0) + (F_X11_stickNow M (nI j) (nI 1) (nI 1)).getD 0) := fun kk f g => by
        rw [L_X10_digest_340, if_neg (by decide), c0, Option.bind_some]
        simp only [F_X10_behind, lt, Option.bind_some]
        rw [show (0 : Int32) + 1 = 1 by decide, L_X10_digest_340, if_neg (by decide), c1, Option.bind_some]
        simp only [F_X10_behind, lt, Option.bind_some]
        rw [show (1 : Int32) + 1 = 2 by decide, L_X10_digest_340, if_pos (by decide)]
      refine (inn _ 997 _).trans ?_
      refine (lt_eq _ _).trans ?_
      rw [nI_1]
  · refine loopN (L := fun f (q : Int64 × Int32) => L_X11_digest_353 M k f q.1 q.2) (st := fun j => (hr2 (fun j i => (F_X11_stickNow M (nI j) (nI 1) (nI i)).getD 0) h j, nI j)) 3 _ (fun f => ?_) (fun f j hj => ?_) 1000 0 (by omega) (by omega)
    · show L_X11_digest_353 M k (f + 1) _ (nI 3) = _
      rw [L_X11_digest_353, if_pos (by decide)]
    · show L_X11_digest_353 M k (f + 1) (hr2 (fun j i => (F_X11_stickNow M (nI j) (nI 1) (nI i)).getD 0) h j) (nI j) = L_X11_digest_353 M k f (31 * (31 * hr2 (fun j i => (F_X11_stickNow M (nI j) (nI 1) (nI i)).getD 0) h j + (F_X11_stickNow M (nI j) (nI 1) (nI 0)).getD 0) + (F_X11_stickNow M (nI j) (nI 1) (nI 1)).getD 0) (nI (j + 1))
      have c0 : F_X11_stickNow M (nI j) 1 0 = some _ := (c j 0 hj (by omega)).2
      have c1 : F_X11_stickNow M (nI j) 1 1 = some _ := (c j 1 hj (by omega)).2
      rw [L_X11_digest_353, if_neg (show ¬ (3 : Int32) ≤ nI j from nI_ge (b := 3) hj (by decide)), c0, Option.bind_some]
      refine (lt_eq _ _).trans ?_
      rw [c1, Option.bind_some]
      simp only [lt, nI_1]
theorem d_gaps {X M : zSt} (hR : zR X M) (h : Int64) : ∃ v, (∀ k, L_X10_digest_41 X k 1000 h 0 = k v) ∧ ∀ k, L_X11_digest_45 M k 1000 h 0 = k v := by
  obtain ⟨v0, x0, m0⟩ := d_gap2 hR (w := 0) (by omega) h
  obtain ⟨v1, x1, m1⟩ := d_gap2 hR (w := 1) (by omega) v0
  obtain ⟨v2, x2, m2⟩ := d_gap2 hR (w := 2) (by omega) v1
  have x0 : ∀ k, L_X10_digest_49 X 0 k 1000 h 0 = k v0 := x0
  have x1 : ∀ k, L_X10_digest_49 X 1 k 1000 v0 0 = k v1 := x1
  have x2 : ∀ k, L_X10_digest_49 X 2 k 1000 v1 0 = k v2 := x2
  have m0 : ∀ k, L_X11_digest_53 M 0 k 1000 h 0 = k v0 := m0
  have m1 : ∀ k, L_X11_digest_53 M 1 k 1000 v0 0 = k v1 := m1
  have m2 : ∀ k, L_X11_digest_53 M 2 k 1000 v1 0 = k v2 := m2
  have sx : ∀ k f, L_X10_digest_41 X k (f + 4) h 0 = k v2 := fun k f => by
    rw [L_X10_digest_41, if_neg (by decide)]
    refine (lt_eq _ _).trans ?_
    refine (x0 _).trans ?_
    refine (lt_eq _ _).trans ?_
    rw [show (0 : Int32) + 1 = 1 by decide, L_X10_digest_41, if_neg (by decide)]
    refine (lt_eq _ _).trans ?_
    refine (x1 _).trans ?_
    refine (lt_eq _ _).trans ?_
    rw [show (1 : Int32) + 1 = 2 by decide, L_X10_digest_41, if_neg (by decide)]
    refine (lt_eq _ _).trans ?_
    refine (x2 _).trans ?_
    refine (lt_eq _ _).trans ?_
    rw [show (2 : Int32) + 1 = 3 by decide, L_X10_digest_41, if_pos (by decide)]
  have sm : ∀ k f, L_X11_digest_45 M k (f + 4) h 0 = k v2 := fun k f => by
    rw [L_X11_digest_45, if_neg (by decide)]
    refine (lt_eq _ _).trans ?_
    refine (m0 _).trans ?_
    refine (lt_eq _ _).trans ?_
    rw [show (0 : Int32) + 1 = 1 by decide, L_X11_digest_45, if_neg (by decide)]
    refine (lt_eq _ _).trans ?_
    refine (m1 _).trans ?_
    refine (lt_eq _ _).trans ?_
    rw [show (1 : Int32) + 1 = 2 by decide, L_X11_digest_45, if_neg (by decide)]
    refine (lt_eq _ _).trans ?_
    refine (m2 _).trans ?_
    refine (lt_eq _ _).trans ?_
    rw [show (2 : Int32) + 1 = 3 by decide, L_X11_digest_45, if_pos (by decide)]
  exact ⟨v2, fun k => sx k 996, fun k => sm k 996⟩
theorem m1_59 : (-1 : Int32) ≤ -1 ∧ (-1 : Int32) ≤ 59 := by decide
theorem a_digest : ag_digest zR := by
  intro X M hR
  obtain ⟨v1, x1, m1⟩ := d_count hR 17
  obtain ⟨r, X1, M1, x2, m2, R1⟩ := t_flt hR
  obtain ⟨v3, x3, m3⟩ := d_gaps R1 (31 * v1 + r.toInt64)
  obtain ⟨r4, X2, M2, x4, m4, R2⟩ := h_held R1 (l := 0) (h := 2) (by omega) (by omega) m1_59
  obtain ⟨r5, X3, M3, x5, m5, R3⟩ := h_held R2 (l := 1) (h := 2) (by omega) (by omega) m1_59
  obtain ⟨v6, x6, m6⟩ := d_size R3 (31 * (31 * v3 + r4.toInt64) + r5.toInt64)
  obtain ⟨r7, x7, m7⟩ := l_all R3
  obtain ⟨v8, x8, m8⟩ := d_ward R3 (31 * v6 + r7.toInt64)
  obtain ⟨v9, x9, m9⟩ := d_means R3 v8
  obtain ⟨v10, x10, m10⟩ := d_full R3 v9
  obtain ⟨v11, x11, m11⟩ := d_mean R3 v10
  obtain ⟨hh, gg, -, -⟩ := R3.2.2.2.2.2.1
  obtain ⟨r12, x12, m12⟩ := u_fewer gg
  have x12 : F_X10_fewer X3 = some r12 := by
    unfold F_X10_fewer
    rw [x12]
    rfl
  obtain ⟨r13, x13, m13⟩ := z_bst R3 (a := 2) (by omega) (by omega) (p01 (i := 0) (by omega))
  have x13 : F_X10_best X3 2 0 = some r13 := x13
  have m13 : F_X11_bestNow M3 2 0 = some r13 := m13
  have x4 : F_X10_held X1 0 2 (-1) = some (r4, X2) := x4
  have m4 : F_X11_heldNow M1 0 2 (-1) = some (r4, M2) := m4
  have x5 : F_X10_held X2 1 2 (-1) = some (r5, X3) := x5
  have m5 : F_X11_heldNow M2 1 2 (-1) = some (r5, M3) := m5
  obtain ⟨v14, x14, m14⟩ := d_stick R3 (31 * (31 * v11 + r12.toInt64) + r13.toInt64)
  have hx : ∀ k f, L_X10_digest_98 k (f + 3) X1 v3 0 = k X3 (31 * (31 * v3 + r4.toInt64) + r5.toInt64) := fun k f => by
    rw [L_X10_digest_98, if_neg (by decide), x4, b2_some]
    simp only [F_X10_behind, lt, Option.bind_some]
    rw [show (0 : Int32) + 1 = 1 by decide, L_X10_digest_98, if_neg (by decide), x5, b2_some]
    simp only [F_X10_behind, lt, Option.bind_some]
    rw [show (1 : Int32) + 1 = 2 by decide, L_X10_digest_98, if_pos (by decide)]
  have bh : ∀ a b : Int64, F_X10_behind a b = some (31 * a + b) := fun _ _ => rfl
  refine ⟨v14, X3, M3, ?_, ?_, R3⟩
  · refine (F_X10_digest.eq_1 X).trans ?_
    refine (lt_eq _ _).trans ?_
    refine (lt_eq _ _).trans ?_
    refine (x1 _).trans ?_
    rw [x2, b2_some, bh, Option.bind_some]
    refine (lt_eq _ _).trans ?_
    refine (lt_eq _ _).trans ?_
    refine (x3 _).trans ?_
    refine (lt_eq _ _).trans ?_
    refine (hx _ 997).trans ?_
    refine (lt_eq _ _).trans ?_
    refine (x6 _).trans ?_
    rw [x7, Option.bind_some, bh, Option.bind_some]
    refine (lt_eq _ _).trans ?_
    refine (lt_eq _ _).trans ?_
    refine (x8 _).trans ?_
    refine (lt_eq _ _).trans ?_
    refine (x9 _).trans ?_
    refine (lt_eq _ _).trans ?_
    refine (x10 _).trans ?_
    refine (lt_eq _ _).trans ?_
    refine (x11 _).trans ?_
    rw [x12, Option.bind_some, bh, Option.bind_some]
    refine (lt_eq _ _).trans ?_
    rw [x13, Option.bind_some, bh, Option.bind_some]
    refine (lt_eq _ _).trans ?_
    refine (lt_eq _ _).trans ?_
    exact x14 _
  · refine (F_X11_digest.eq_1 M).trans ?_
    refine (lt_eq _ _).trans ?_
    refine (lt_eq _ _).trans ?_
    refine (m1 _).trans ?_
    rw [m2, b2_some]
    refine (lt_eq _ _).trans ?_
    refine (lt_eq _ _).trans ?_
    refine (m3 _).trans ?_
    rw [m4, b2_some]
    refine (lt_eq _ _).trans ?_
    rw [m5, b2_some]
    refine (lt_eq _ _).trans ?_
    refine (lt_eq _ _).trans ?_
    refine (m6 _).trans ?_
    rw [m7, Option.bind_some]
    refine (lt_eq _ _).trans ?_
    refine (lt_eq _ _).trans ?_
    refine (m8 _).trans ?_
    refine (lt_eq _ _).trans ?_
    refine (m9 _).trans ?_
    refine (lt_eq _ _).trans ?_
    refine (m10 _).trans ?_
    refine (lt_eq _ _).trans ?_
    refine (m11 _).trans ?_
    rw [m12, Option.bind_some]
    refine (lt_eq _ _).trans ?_
    rw [m13, Option.bind_some]
    refine (lt_eq _ _).trans ?_
    refine (lt_eq _ _).trans ?_
    exact m14 _
theorem zR0 : zR S0X S0M := by
  refine ⟨⟨0, by omega, rfl, rfl, fun i hi => by omega⟩, fun n hn => ⟨0, by decide, rfl, fun m hm => ?_⟩, ⟨0, 0, 999, by omega, by omega, by omega, rfl, rfl, rfl, rfl, rfl, rfl, fun i hi => by omega⟩, fun t ht n h1 h2 => ⟨0, by omega, ?_, rfl⟩, ⟨0, by omega, rfl, rfl, fun i hi => by omega⟩, ⟨fun _ => 0, fun p hp => ⟨show (0 : Nat) < 256 by decide, rfl, rfl⟩, fun a b _ _ => (Nat.zero_testBit b).trans (Nat.zero_testBit a).symm, fun a _ => Nat.zero_testBit a⟩, ⟨0, fun _ => 0, by omega, rfl, rfl, fun i hi => by omega⟩, ⟨rfl, fun s hs => Or.inl ⟨?_, rfl⟩⟩⟩
  · rw [Nat.zero_testBit]
    rfl
  · show (if 38 + t = 25 then (upd (upd (upd (upd (fun _ => 0) 0 (-1)) 1 (-1)) 2 (-1)) 3 (-1)) else fun _ => 0) n = nI 0
    rw [if_neg (by omega)]
    rfl
  · show (if 25 = 25 then (upd (upd (upd (upd (fun _ => 0) 0 (-1)) 1 (-1)) 2 (-1)) 3 (-1)) else fun _ => 0) s = -1
    rw [if_pos rfl]
    have : s = 0 ∨ s = 1 ∨ s = 2 ∨ s = 3 := by omega
    rcases this with rfl | rfl | rfl | rfl <;> rfl
