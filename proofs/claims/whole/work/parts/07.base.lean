abbrev zSt : Type := (Nat → Int32) × (Nat → Int64) × (Nat → Nat → Int32) × (Nat → Nat → Int64)
def zI (S : zSt) (k : Nat) : Int32 := S.1 k
def zJ (S : zSt) (k : Nat) : Int64 := S.2.1 k
def zA (S : zSt) (k : Nat) : Nat → Int32 := S.2.2.1 k
def zL (S : zSt) (k : Nat) : Nat → Int64 := S.2.2.2 k
def sI (S : zSt) (k : Nat) (v : Int32) : zSt := (fun j => if j = k then v else S.1 j, S.2)
def sJ (S : zSt) (k : Nat) (v : Int64) : zSt := (S.1, fun j => if j = k then v else S.2.1 j, S.2.2)
def sA (S : zSt) (k : Nat) (f : Nat → Int32) : zSt := (S.1, S.2.1, fun j => if j = k then f else S.2.2.1 j, S.2.2.2)
def sL (S : zSt) (k : Nat) (f : Nat → Int64) : zSt := (S.1, S.2.1, S.2.2.1, fun j => if j = k then f else S.2.2.2 j)
abbrev zWl : Type := Nat × (Nat → Nat) × (zSt → Nat → va_E)
def zws (w : zWl) (S : zSt) : va_W := (List.range w.1).map (fun k => (w.2.1 k, w.2.2 S k))
theorem zws_get {w : zWl} {S : zSt} {k : Nat} (h : k < w.1) : (zws w S)[k]? = some (w.2.1 k, w.2.2 S k) := by
  unfold zws
  rw [List.getElem?_map, List.getElem?_range h]
  rfl
theorem zws_len {w : zWl} {S : zSt} : (zws w S).length = w.1 := by simp [zws]
theorem zws_set {w : zWl} {S S' : zSt} {k : Nat} (h : k < w.1) (ho : ∀ j, j ≠ k → w.2.2 S' j = w.2.2 S j) : (zws w S).set k (w.2.1 k, w.2.2 S' k) = zws w S' := by
  apply List.ext_getElem?
  intro j
  by_cases hj : j < w.1
  · rw [zws_get hj]
    by_cases e : j = k
    · subst e
      rw [List.getElem?_set_self (by rw [zws_len]; exact hj)]
    · rw [List.getElem?_set_ne (Ne.symm e), zws_get hj, ho j e]
  · rw [List.getElem?_eq_none (by rw [List.length_set, zws_len]; omega), List.getElem?_eq_none (by rw [zws_len]; omega)]
def zAA (w : zWl) (sz : Nat) : Nat → Prop := fun q => (∃ k, k < w.1 ∧ q = w.2.1 k) ∨ sz ≤ q
def zin (w : zWl) : Prop := ∀ i j, i < w.1 → j < w.1 → w.2.1 i = w.2.1 j → i = j
theorem zws_at {w : zWl} {S : zSt} {k : Nat} {q : Nat × va_E} (h : (zws w S)[k]? = some q) : k < w.1 ∧ q = (w.2.1 k, w.2.2 S k) := by
  have hk : k < w.1 := by
    have := (List.getElem?_eq_some_iff.mp h).1
    rwa [zws_len] at this
  refine ⟨hk, ?_⟩
  rw [zws_get hk] at h
  exact (Option.some.inj h).symm
theorem zD {w : zWl} (h : zin w) (S : zSt) (sz : Nat) : va_D (zAA w sz) (zws w S) := by
  refine ⟨fun i j p q hi hj e => ?_, fun k q hk => ?_⟩
  · obtain ⟨h1, rfl⟩ := zws_at hi
    obtain ⟨h2, rfl⟩ := zws_at hj
    exact h i j h1 h2 e
  · obtain ⟨h1, rfl⟩ := zws_at hk
    exact Or.inl ⟨k, h1, rfl⟩
def zNs (U : State) : Prop := va_Nw (.methodLinkNest RX8 36 yX10_outside RX10) U ∧ va_Nw (.methodLinkNest RX7 31 yX10_outside RX10) U ∧ va_Nw (.methodLinkNest RX5 31 yX10_outside RX10) U
theorem zNs.warm {s U : State} (hW : s.WarmedH U.vm) (h : zNs s) : zNs U := ⟨va_Nw.warmM hW h.1, va_Nw.warmM hW h.2.1, va_Nw.warmM hW h.2.2⟩
theorem zNs.same {s U : State} (e : s.vm = U.vm) (h : zNs s) : zNs U := ⟨va_Nw.same rfl e h.1, va_Nw.same rfl e h.2.1, va_Nw.same rfl e h.2.2⟩
abbrev zKx : Type := Program × Launch × Env × Room × State × MethodId × Array Value × List Frame × Method × Code
abbrev zCx : Type := zKx × va_G × Nat
abbrev zTy : Type := List (ClassId × FieldType)
abbrev zOut : Type := Option Value × zSt
def zGood (E : zCx) (w : zWl) (tys : zTy) (cc : ByteArray) (own : String) (Ts : List Cond) (rt : Option FieldType) (rm : Room) : Prop :=
  CallFix E.1.1 E.1.2.2.2.2.2.1 E.1.2.2.2.2.2.2.2.2.2 cc E.2.2 E.1.2.2.2.2.1 E.1.2.2.2.2.2.2.1 Ts own ∧ va_K E.2.1 vwCl tys E.1.2.2.2.2.1 ∧ zin w ∧ E.1.2.2.2.2.2.2.2.2.1.locks = false ∧ E.1.2.2.2.2.2.2.2.2.1.sig.returnType = rt ∧ E.1.2.2.2.1 = rm ∧ zNs E.1.2.2.2.2.1
def zQ (D : va_G) (w : zWl) (out : zOut) : Array Value → State → Outcome → State → Prop := fun _ st o t => o = .returned out.1 ∧ va_P D vwCl (zws w out.2) t.heap ∧ va_F (zAA w st.heap.size) st t
def zP (D : va_G) (w : zWl) (tys : zTy) (S : zSt) (sz : Nat) (as : List Value) : Array Value → State → Prop := va_Pc as (fun U => U.heap.size = sz ∧ va_P D vwCl (zws w S) U.heap ∧ va_K D vwCl tys U ∧ zNs U)
def zMet (l : Launch) (D : va_G) (w : zWl) (tys : zTy) (y : MethodName) (ws : List Cond) (rm : Room) (S : zSt) (as : List Value) (out : zOut) : Prop := ∀ sz, Met l y ws rm (zP D w tys S sz as) (zQ D w out) 0 0 (zAA w sz)
def zX (E : zCx) (w : zWl) (out : zOut) (S : zSt) (pc : Nat) (lv : List (Nat × Value)) (st : List Value) : Prop :=
  ∀ (H : Heap) (locs : List Loc) (ls : Array Slot), va_P E.2.1 vwCl (zws w S) H → va_S (zAA w E.1.2.2.2.2.1.heap.size) E.1.2.2.2.2.1.heap H locs → lv_has ls E.2.2 lv →
    W E.1.1 E.1.2.1 E.1.2.2.1 E.1.2.2.2.1 E.1.2.2.2.2.1 E.1.2.2.2.2.2.1 E.1.2.2.2.2.2.2.1 E.1.2.2.2.2.2.2.2.1 E.1.2.2.2.2.2.2.2.2.1 E.1.2.2.2.2.2.2.2.2.2 H locs 0 0
      (MQ E.1.2.2.2.2.2.2.2.1 (zQ E.2.1 w out) E.1.2.2.2.2.2.2.1 E.1.2.2.2.2.1 0 0 (zAA w E.1.2.2.2.2.1.heap.size)) (F0 E.1.2.2.2.2.2.1 pc ls st)
def Xo {α : Type} (E : zCx) (w : zWl) (em : α → zOut) (S : zSt) (pc : Nat) (lv : List (Nat × Value)) (st : List Value) (o : Option α) : Prop := ∀ a, o = some a → zX E w (em a) S pc lv st
def eI (S : zSt) (r : Int32) : zOut := (some (.int r), S)
def eL (S : zSt) (r : Int64) : zOut := (some (.long r), S)
def eIw (q : Int32 × zSt) : zOut := (some (.int q.1), q.2)
def eLw (q : Int64 × zSt) : zOut := (some (.long q.1), q.2)
def eVw (S : zSt) : zOut := (none, S)
/-- a named value -/
def lt {α β : Type} (e : α) (f : α → β) : β := f e
/-- a place where roads meet -/
def jn {α β : Type} (f : α) (g : α → β) : β := g f
/-- an index that is in its row, or nothing -/
def ibd {α : Type} (i : Int32) (n : Nat) (o : Option α) : Option α := if i < 0 ∨ n ≤ i.toNatClampNeg then none else o
/-- a divisor that isn't 0, or nothing -/
def nz {α : Type} (y : Int32) (o : Option α) : Option α := if y = 0 then none else o
def nzl {α : Type} (y : Int64) (o : Option α) : Option α := if y = 0 then none else o
/-- an answer that is 0 or 1, or nothing -/
def zb {α : Type} (y : Int32) (o : Option α) : Option α := if y = 0 ∨ y = 1 then o else none
def b2 {α β γ : Type} (o : Option (α × β)) (f : α → β → Option γ) : Option γ := o.bind (fun q => f q.1 q.2)

section ZR
variable {α β : Type} {E : zCx} {w : zWl} {tys : zTy} {cc : ByteArray} {own : String} {Ts : List Cond} {rt : Option FieldType} {rm : Room} {em : α → zOut} {S : zSt} {pc : Nat} {lv : List (Nat × Value)} {st : List Value} {o : Option α}
theorem r_none : Xo E w em S pc lv st (none : Option α) := fun a h => by cases h
theorem r_sub {lv' : List (Nat × Value)} (ks : List Nat) (hl : lv_pick lv ks = lv') (k : Xo E w em S pc lv' st o) : Xo E w em S pc lv st o := fun a ha H locs ls hP hS h => k a ha H locs ls hP hS (lv_sub h ks hl)
theorem r_lt {τ : Type} {e : τ} {f : τ → Option α} (k : Xo E w em S pc lv st (f e)) : Xo E w em S pc lv st (lt e f) := k
theorem r_jn {τ : Type} {f : τ} {g : τ → Option α} (k : Xo E w em S pc lv st (g f)) : Xo E w em S pc lv st (jn f g) := k

theorem r_iconst (B : zGood E w tys cc own Ts rt rm) {n : Int} (v : Int32) (hd : decode cc pc = .ok (.iconst n, 1)) (hv : Int32.ofInt n = v) (k : Xo E w em S (pc + 1) lv (.int v :: st) o) : Xo E w em S pc lv st o := fun a ha H locs ls hP hS hl => lv_iconst B.1.1 B.1.2.1 hd hv (k a ha H locs ls hP hS hl)
theorem r_bipush (B : zGood E w tys cc own Ts rt rm) {n : Int} (v : Int32) (hd : decode cc pc = .ok (.bipush n, 2)) (hv : (Int8.ofInt n).toInt32 = v) (k : Xo E w em S (pc + 2) lv (.int v :: st) o) : Xo E w em S pc lv st o := fun a ha H locs ls hP hS hl => lv_bipush B.1.1 B.1.2.1 hd hv (k a ha H locs ls hP hS hl)
theorem r_sipush (B : zGood E w tys cc own Ts rt rm) {n : Int} (v : Int32) (hd : decode cc pc = .ok (.sipush n, 3)) (hv : (Int16.ofInt n).toInt32 = v) (k : Xo E w em S (pc + 3) lv (.int v :: st) o) : Xo E w em S pc lv st o := fun a ha H locs ls hP hS hl => lv_sipush B.1.1 B.1.2.1 hd hv (k a ha H locs ls hP hS hl)
theorem r_lconst (B : zGood E w tys cc own Ts rt rm) {n : Fin 2} (v : Int64) (hd : decode cc pc = .ok (.lconst n, 1)) (hv : Int64.ofNat (n : Nat) = v) (k : Xo E w em S (pc + 1) lv (.long v :: st) o) : Xo E w em S pc lv st o := fun a ha H locs ls hP hS hl => lv_lconst B.1.1 B.1.2.1 hd hv (k a ha H locs ls hP hS hl)
theorem r_ldc (B : zGood E w tys cc own Ts rt rm) {idx : Nat} (v : Int32) (hm : Cond.constant own idx v ∈ Ts) (hd : decode cc pc = .ok (.ldc idx, 2)) (k : Xo E w em S (pc + 2) lv (.int v :: st) o) : Xo E w em S pc lv st o := fun a ha H locs ls hP hS hl => lv_ldc B.1.1 B.1.2.1 B.1.2.2.2.1 (B.1.2.2.2.2 _ hm) hd (k a ha H locs ls hP hS hl)
theorem r_ldcw (B : zGood E w tys cc own Ts rt rm) {idx : Nat} (v : Int32) (hm : Cond.constant own idx v ∈ Ts) (hd : decode cc pc = .ok (.ldc_w idx, 3)) (k : Xo E w em S (pc + 3) lv (.int v :: st) o) : Xo E w em S pc lv st o := fun a ha H locs ls hP hS hl => lv_ldcw B.1.1 B.1.2.1 B.1.2.2.2.1 (B.1.2.2.2.2 _ hm) hd (k a ha H locs ls hP hS hl)
theorem r_ldc2 (B : zGood E w tys cc own Ts rt rm) {idx : Nat} (v : Int64) (hm : Cond.constantLong own idx v ∈ Ts) (hd : decode cc pc = .ok (.ldc2_w idx, 3)) (k : Xo E w em S (pc + 3) lv (.long v :: st) o) : Xo E w em S pc lv st o := fun a ha H locs ls hP hS hl => lv_ldc2 B.1.1 B.1.2.1 B.1.2.2.2.1 (B.1.2.2.2.2 _ hm) hd (k a ha H locs ls hP hS hl)
theorem r_iload_n (B : zGood E w tys cc own Ts rt rm) {j : Fin 4} {i : Nat} {x : Int32} (q : Nat) (hd : decode cc pc = .ok (.iload_n j, 1)) (hi : (j : Nat) = i) (hq : lv[q]? = some (i, .int x)) (k : Xo E w em S (pc + 1) lv (.int x :: st) o) : Xo E w em S pc lv st o := fun a ha H locs ls hP hS hl => lv_iload_n B.1.1 B.1.2.1 hd hi (lv_at hl q hq) (k a ha H locs ls hP hS hl)
theorem r_iload (B : zGood E w tys cc own Ts rt rm) {i : Nat} {x : Int32} (q : Nat) (hd : decode cc pc = .ok (.iload i, 2)) (hq : lv[q]? = some (i, .int x)) (k : Xo E w em S (pc + 2) lv (.int x :: st) o) : Xo E w em S pc lv st o := fun a ha H locs ls hP hS hl => lv_iload B.1.1 B.1.2.1 hd (lv_at hl q hq) (k a ha H locs ls hP hS hl)
theorem r_lload_n (B : zGood E w tys cc own Ts rt rm) {j : Fin 4} {i : Nat} {x : Int64} (q : Nat) (hd : decode cc pc = .ok (.lload_n j, 1)) (hi : (j : Nat) = i) (hq : lv[q]? = some (i, .long x)) (k : Xo E w em S (pc + 1) lv (.long x :: st) o) : Xo E w em S pc lv st o := fun a ha H locs ls hP hS hl => lv_lload_n B.1.1 B.1.2.1 hd hi (lv_at hl q hq) (k a ha H locs ls hP hS hl)
theorem r_lload (B : zGood E w tys cc own Ts rt rm) {i : Nat} {x : Int64} (q : Nat) (hd : decode cc pc = .ok (.lload i, 2)) (hq : lv[q]? = some (i, .long x)) (k : Xo E w em S (pc + 2) lv (.long x :: st) o) : Xo E w em S pc lv st o := fun a ha H locs ls hP hS hl => lv_lload B.1.1 B.1.2.1 hd (lv_at hl q hq) (k a ha H locs ls hP hS hl)
theorem r_aload_n (B : zGood E w tys cc own Ts rt rm) {j : Fin 4} {i : Nat} {x : Nat} (q : Nat) (hd : decode cc pc = .ok (.aload_n j, 1)) (hi : (j : Nat) = i) (hq : lv[q]? = some (i, .ref x)) (k : Xo E w em S (pc + 1) lv (.ref x :: st) o) : Xo E w em S pc lv st o := fun a ha H locs ls hP hS hl => lv_aload_n B.1.1 B.1.2.1 hd hi (lv_at hl q hq) (k a ha H locs ls hP hS hl)
theorem r_aload (B : zGood E w tys cc own Ts rt rm) {i : Nat} {x : Nat} (q : Nat) (hd : decode cc pc = .ok (.aload i, 2)) (hq : lv[q]? = some (i, .ref x)) (k : Xo E w em S (pc + 2) lv (.ref x :: st) o) : Xo E w em S pc lv st o := fun a ha H locs ls hP hS hl => lv_aload B.1.1 B.1.2.1 hd (lv_at hl q hq) (k a ha H locs ls hP hS hl)
theorem r_istore_n (B : zGood E w tys cc own Ts rt rm) {j : Fin 4} {i : Nat} {e : Int32} {lv' : Int32 → List (Nat × Value)} {f : Int32 → Option α} (hd : decode cc pc = .ok (.istore_n j, 1)) (hi : (j : Nat) = i) (hn : i < E.2.2) (hl' : ∀ x : Int32, (i, Value.int x) :: lv.filter (fun q => !(q.1 == i) && !(q.1 + 1 == i && q.2.category == 2)) = lv' x) (k : ∀ x : Int32, Xo E w em S (pc + 1) (lv' x) st (f x)) : Xo E w em S pc lv (.int e :: st) (lt e f) := fun a ha H locs ls hP hS hl => lv_istore_n B.1.1 B.1.2.1 hd hi hl hn (hl' e) (fun ls' hl2 => k e a ha H locs ls' hP hS hl2)
theorem r_istore (B : zGood E w tys cc own Ts rt rm) {i : Nat} {e : Int32} {lv' : Int32 → List (Nat × Value)} {f : Int32 → Option α} (hd : decode cc pc = .ok (.istore i, 2)) (hn : i < E.2.2) (hl' : ∀ x : Int32, (i, Value.int x) :: lv.filter (fun q => !(q.1 == i) && !(q.1 + 1 == i && q.2.category == 2)) = lv' x) (k : ∀ x : Int32, Xo E w em S (pc + 2) (lv' x) st (f x)) : Xo E w em S pc lv (.int e :: st) (lt e f) := fun a ha H locs ls hP hS hl => lv_istore B.1.1 B.1.2.1 hd hl hn (hl' e) (fun ls' hl2 => k e a ha H locs ls' hP hS hl2)
theorem r_lstore_n (B : zGood E w tys cc own Ts rt rm) {j : Fin 4} {i : Nat} {e : Int64} {lv' : Int64 → List (Nat × Value)} {f : Int64 → Option α} (hd : decode cc pc = .ok (.lstore_n j, 1)) (hi : (j : Nat) = i) (hn : i + 1 < E.2.2) (hl' : ∀ x : Int64, (i, Value.long x) :: lv.filter (fun q => !(q.1 == i) && (!(q.1 == i + 1) && !(q.1 + 1 == i && q.2.category == 2))) = lv' x) (k : ∀ x : Int64, Xo E w em S (pc + 1) (lv' x) st (f x)) : Xo E w em S pc lv (.long e :: st) (lt e f) := fun a ha H locs ls hP hS hl => lv_lstore_n B.1.1 B.1.2.1 hd hi hl hn (hl' e) (fun ls' hl2 => k e a ha H locs ls' hP hS hl2)
theorem r_lstore (B : zGood E w tys cc own Ts rt rm) {i : Nat} {e : Int64} {lv' : Int64 → List (Nat × Value)} {f : Int64 → Option α} (hd : decode cc pc = .ok (.lstore i, 2)) (hn : i + 1 < E.2.2) (hl' : ∀ x : Int64, (i, Value.long x) :: lv.filter (fun q => !(q.1 == i) && (!(q.1 == i + 1) && !(q.1 + 1 == i && q.2.category == 2))) = lv' x) (k : ∀ x : Int64, Xo E w em S (pc + 2) (lv' x) st (f x)) : Xo E w em S pc lv (.long e :: st) (lt e f) := fun a ha H locs ls hP hS hl => lv_lstore B.1.1 B.1.2.1 hd hl hn (hl' e) (fun ls' hl2 => k e a ha H locs ls' hP hS hl2)
theorem r_iinc (B : zGood E w tys cc own Ts rt rm) {i : Nat} {n : Int} {x : Int32} (q : Nat) (d : Int32) {lv' : Int32 → List (Nat × Value)} {f : Int32 → Option α} (hd : decode cc pc = .ok (.iinc i n, 3)) (hq : lv[q]? = some (i, .int x)) (hv : Int32.ofInt n = d) (hn : i < E.2.2) (hl' : ∀ x : Int32, (i, Value.int x) :: lv.filter (fun q => !(q.1 == i) && !(q.1 + 1 == i && q.2.category == 2)) = lv' x) (k : ∀ x : Int32, Xo E w em S (pc + 3) (lv' x) st (f x)) : Xo E w em S pc lv st (lt (x + d) f) := fun a ha H locs ls hP hS hl => lv_iinc B.1.1 B.1.2.1 hd hl hq (by rw [hv]) hn (hl' (x + d)) (fun ls' hl2 => k (x + d) a ha H locs ls' hP hS hl2)
theorem r_iadd (B : zGood E w tys cc own Ts rt rm) {x y : Int32} (hd : decode cc pc = .ok (.iadd, 1)) (k : Xo E w em S (pc + 1) lv (.int (x + y) :: st) o) : Xo E w em S pc lv (.int y :: .int x :: st) o := fun a ha H locs ls hP hS hl => lv_iadd B.1.1 B.1.2.1 hd (k a ha H locs ls hP hS hl)
theorem r_isub (B : zGood E w tys cc own Ts rt rm) {x y : Int32} (hd : decode cc pc = .ok (.isub, 1)) (k : Xo E w em S (pc + 1) lv (.int (x - y) :: st) o) : Xo E w em S pc lv (.int y :: .int x :: st) o := fun a ha H locs ls hP hS hl => lv_isub B.1.1 B.1.2.1 hd (k a ha H locs ls hP hS hl)
theorem r_imul (B : zGood E w tys cc own Ts rt rm) {x y : Int32} (hd : decode cc pc = .ok (.imul, 1)) (k : Xo E w em S (pc + 1) lv (.int (x * y) :: st) o) : Xo E w em S pc lv (.int y :: .int x :: st) o := fun a ha H locs ls hP hS hl => lv_imul B.1.1 B.1.2.1 hd (k a ha H locs ls hP hS hl)
theorem r_iand (B : zGood E w tys cc own Ts rt rm) {x y : Int32} (hd : decode cc pc = .ok (.iand, 1)) (k : Xo E w em S (pc + 1) lv (.int (x &&& y) :: st) o) : Xo E w em S pc lv (.int y :: .int x :: st) o := fun a ha H locs ls hP hS hl => lv_iand B.1.1 B.1.2.1 hd (k a ha H locs ls hP hS hl)
theorem r_ior (B : zGood E w tys cc own Ts rt rm) {x y : Int32} (hd : decode cc pc = .ok (.ior, 1)) (k : Xo E w em S (pc + 1) lv (.int (x ||| y) :: st) o) : Xo E w em S pc lv (.int y :: .int x :: st) o := fun a ha H locs ls hP hS hl => lv_ior B.1.1 B.1.2.1 hd (k a ha H locs ls hP hS hl)
theorem r_ixor (B : zGood E w tys cc own Ts rt rm) {x y : Int32} (hd : decode cc pc = .ok (.ixor, 1)) (k : Xo E w em S (pc + 1) lv (.int (x ^^^ y) :: st) o) : Xo E w em S pc lv (.int y :: .int x :: st) o := fun a ha H locs ls hP hS hl => lv_ixor B.1.1 B.1.2.1 hd (k a ha H locs ls hP hS hl)
theorem r_ishl (B : zGood E w tys cc own Ts rt rm) {x y : Int32} (hd : decode cc pc = .ok (.ishl, 1)) (k : Xo E w em S (pc + 1) lv (.int (x <<< (y &&& 31)) :: st) o) : Xo E w em S pc lv (.int y :: .int x :: st) o := fun a ha H locs ls hP hS hl => lv_ishl B.1.1 B.1.2.1 hd (k a ha H locs ls hP hS hl)
theorem r_ishr (B : zGood E w tys cc own Ts rt rm) {x y : Int32} (hd : decode cc pc = .ok (.ishr, 1)) (k : Xo E w em S (pc + 1) lv (.int (x >>> (y &&& 31)) :: st) o) : Xo E w em S pc lv (.int y :: .int x :: st) o := fun a ha H locs ls hP hS hl => lv_ishr B.1.1 B.1.2.1 hd (k a ha H locs ls hP hS hl)
theorem r_ladd (B : zGood E w tys cc own Ts rt rm) {x y : Int64} (hd : decode cc pc = .ok (.ladd, 1)) (k : Xo E w em S (pc + 1) lv (.long (x + y) :: st) o) : Xo E w em S pc lv (.long y :: .long x :: st) o := fun a ha H locs ls hP hS hl => lv_ladd B.1.1 B.1.2.1 hd (k a ha H locs ls hP hS hl)
theorem r_lsub (B : zGood E w tys cc own Ts rt rm) {x y : Int64} (hd : decode cc pc = .ok (.lsub, 1)) (k : Xo E w em S (pc + 1) lv (.long (x - y) :: st) o) : Xo E w em S pc lv (.long y :: .long x :: st) o := fun a ha H locs ls hP hS hl => lv_lsub B.1.1 B.1.2.1 hd (k a ha H locs ls hP hS hl)
theorem r_lmul (B : zGood E w tys cc own Ts rt rm) {x y : Int64} (hd : decode cc pc = .ok (.lmul, 1)) (k : Xo E w em S (pc + 1) lv (.long (x * y) :: st) o) : Xo E w em S pc lv (.long y :: .long x :: st) o := fun a ha H locs ls hP hS hl => lv_lmul B.1.1 B.1.2.1 hd (k a ha H locs ls hP hS hl)
theorem r_land (B : zGood E w tys cc own Ts rt rm) {x y : Int64} (hd : decode cc pc = .ok (.land, 1)) (k : Xo E w em S (pc + 1) lv (.long (x &&& y) :: st) o) : Xo E w em S pc lv (.long y :: .long x :: st) o := fun a ha H locs ls hP hS hl => lv_land B.1.1 B.1.2.1 hd (k a ha H locs ls hP hS hl)
theorem r_lor (B : zGood E w tys cc own Ts rt rm) {x y : Int64} (hd : decode cc pc = .ok (.lor, 1)) (k : Xo E w em S (pc + 1) lv (.long (x ||| y) :: st) o) : Xo E w em S pc lv (.long y :: .long x :: st) o := fun a ha H locs ls hP hS hl => lv_lor B.1.1 B.1.2.1 hd (k a ha H locs ls hP hS hl)
theorem r_ineg (B : zGood E w tys cc own Ts rt rm) {x : Int32} (hd : decode cc pc = .ok (.ineg, 1)) (k : Xo E w em S (pc + 1) lv (.int (-x) :: st) o) : Xo E w em S pc lv (.int x :: st) o := fun a ha H locs ls hP hS hl => lv_ineg B.1.1 B.1.2.1 hd (k a ha H locs ls hP hS hl)
theorem r_lneg (B : zGood E w tys cc own Ts rt rm) {x : Int64} (hd : decode cc pc = .ok (.lneg, 1)) (k : Xo E w em S (pc + 1) lv (.long (-x) :: st) o) : Xo E w em S pc lv (.long x :: st) o := fun a ha H locs ls hP hS hl => lv_lneg B.1.1 B.1.2.1 hd (k a ha H locs ls hP hS hl)
theorem r_iushr (B : zGood E w tys cc own Ts rt rm) {x y : Int32} (hd : decode cc pc = .ok (.iushr, 1)) (k : Xo E w em S (pc + 1) lv (.int ((x.toUInt32 >>> (y.toUInt32 &&& Int32.toUInt32 31)).toInt32) :: st) o) : Xo E w em S pc lv (.int y :: .int x :: st) o := fun a ha H locs ls hP hS hl => lv_iushr B.1.1 B.1.2.1 hd rfl (k a ha H locs ls hP hS hl)
theorem r_lushr (B : zGood E w tys cc own Ts rt rm) {x : Int64} {y : Int32} (hd : decode cc pc = .ok (.lushr, 1)) (k : Xo E w em S (pc + 1) lv (.long ((x.toUInt64 >>> (y.toInt64.toUInt64 &&& Int64.toUInt64 63)).toInt64) :: st) o) : Xo E w em S pc lv (.int y :: .long x :: st) o := fun a ha H locs ls hP hS hl => lv_lushr B.1.1 B.1.2.1 hd rfl (k a ha H locs ls hP hS hl)
theorem r_lshl (B : zGood E w tys cc own Ts rt rm) {x : Int64} {y : Int32} (hd : decode cc pc = .ok (.lshl, 1)) (k : Xo E w em S (pc + 1) lv (.long (x <<< (y.toInt64 &&& 63)) :: st) o) : Xo E w em S pc lv (.int y :: .long x :: st) o := fun a ha H locs ls hP hS hl => lv_lshl B.1.1 B.1.2.1 hd rfl (k a ha H locs ls hP hS hl)
theorem r_i2l (B : zGood E w tys cc own Ts rt rm) {x : Int32} (hd : decode cc pc = .ok (.i2l, 1)) (k : Xo E w em S (pc + 1) lv (.long x.toInt64 :: st) o) : Xo E w em S pc lv (.int x :: st) o := fun a ha H locs ls hP hS hl => lv_i2l B.1.1 B.1.2.1 hd rfl (k a ha H locs ls hP hS hl)
theorem r_l2i (B : zGood E w tys cc own Ts rt rm) {x : Int64} (hd : decode cc pc = .ok (.l2i, 1)) (k : Xo E w em S (pc + 1) lv (.int x.toInt32 :: st) o) : Xo E w em S pc lv (.long x :: st) o := fun a ha H locs ls hP hS hl => lv_l2i B.1.1 B.1.2.1 hd rfl (k a ha H locs ls hP hS hl)
theorem r_i2b (B : zGood E w tys cc own Ts rt rm) {x : Int32} (hd : decode cc pc = .ok (.i2b, 1)) (k : Xo E w em S (pc + 1) lv (.int x.toInt8.toInt32 :: st) o) : Xo E w em S pc lv (.int x :: st) o := fun a ha H locs ls hP hS hl => lv_i2b B.1.1 B.1.2.1 hd rfl (k a ha H locs ls hP hS hl)
theorem r_i2s (B : zGood E w tys cc own Ts rt rm) {x : Int32} (hd : decode cc pc = .ok (.i2s, 1)) (k : Xo E w em S (pc + 1) lv (.int x.toInt16.toInt32 :: st) o) : Xo E w em S pc lv (.int x :: st) o := fun a ha H locs ls hP hS hl => lv_i2s B.1.1 B.1.2.1 hd rfl (k a ha H locs ls hP hS hl)
theorem r_lcmp (B : zGood E w tys cc own Ts rt rm) {x y : Int64} (hd : decode cc pc = .ok (.lcmp, 1)) (k : Xo E w em S (pc + 1) lv (.int (lg_cmp x y) :: st) o) : Xo E w em S pc lv (.long y :: .long x :: st) o := fun a ha H locs ls hP hS hl => W.lcmp B.1.1 B.1.2.1 hd (k a ha H locs ls hP hS hl)
theorem r_dup (B : zGood E w tys cc own Ts rt rm) {v : Value} (hc : v.category = 1) (hd : decode cc pc = .ok (.dup, 1)) (k : Xo E w em S (pc + 1) lv (v :: v :: st) o) : Xo E w em S pc lv (v :: st) o := fun a ha H locs ls hP hS hl => lv_dup B.1.1 B.1.2.1 hd hc (k a ha H locs ls hP hS hl)
theorem r_dup2 (B : zGood E w tys cc own Ts rt rm) {v u : Value} (hc : v.category = 1) (hu : u.category = 1) (hd : decode cc pc = .ok (.dup2, 1)) (k : Xo E w em S (pc + 1) lv (v :: u :: v :: u :: st) o) : Xo E w em S pc lv (v :: u :: st) o := fun a ha H locs ls hP hS hl => lv_dup2_11 B.1.1 B.1.2.1 hd hc hu (k a ha H locs ls hP hS hl)
theorem r_pop (B : zGood E w tys cc own Ts rt rm) {v : Value} (hc : v.category = 1) (hd : decode cc pc = .ok (.pop, 1)) (k : Xo E w em S (pc + 1) lv (st) o) : Xo E w em S pc lv (v :: st) o := fun a ha H locs ls hP hS hl => lv_pop B.1.1 B.1.2.1 hd hc (k a ha H locs ls hP hS hl)
theorem r_idiv (B : zGood E w tys cc own Ts rt rm) {x y : Int32} (hd : decode cc pc = .ok (.idiv, 1)) (k : ¬ y = 0 → Xo E w em S (pc + 1) lv (.int (x / y) :: st) o) : Xo E w em S pc lv (.int y :: .int x :: st) (nz y o) := by
  intro a ha H locs ls hP hS hl
  unfold nz at ha
  by_cases h : y = 0
  · rw [if_pos h] at ha; cases ha
  · rw [if_neg h] at ha
    exact lv_idiv B.1.1 B.1.2.1 hd h (k h a ha H locs ls hP hS hl)
theorem r_irem (B : zGood E w tys cc own Ts rt rm) {x y : Int32} (hd : decode cc pc = .ok (.irem, 1)) (k : ¬ y = 0 → Xo E w em S (pc + 1) lv (.int (x - x / y * y) :: st) o) : Xo E w em S pc lv (.int y :: .int x :: st) (nz y o) := by
  intro a ha H locs ls hP hS hl
  unfold nz at ha
  by_cases h : y = 0
  · rw [if_pos h] at ha; cases ha
  · rw [if_neg h] at ha
    exact lv_irem B.1.1 B.1.2.1 hd h (k h a ha H locs ls hP hS hl)
theorem r_ldiv (B : zGood E w tys cc own Ts rt rm) {x y : Int64} (hd : decode cc pc = .ok (.ldiv, 1)) (k : ¬ y = 0 → Xo E w em S (pc + 1) lv (.long (x / y) :: st) o) : Xo E w em S pc lv (.long y :: .long x :: st) (nzl y o) := by
  intro a ha H locs ls hP hS hl
  unfold nzl at ha
  by_cases h : y = 0
  · rw [if_pos h] at ha; cases ha
  · rw [if_neg h] at ha
    exact lv_ldiv B.1.1 B.1.2.1 hd h (k h a ha H locs ls hP hS hl)
theorem r_lrem (B : zGood E w tys cc own Ts rt rm) {x y : Int64} (hd : decode cc pc = .ok (.lrem, 1)) (k : ¬ y = 0 → Xo E w em S (pc + 1) lv (.long (x - x / y * y) :: st) o) : Xo E w em S pc lv (.long y :: .long x :: st) (nzl y o) := by
  intro a ha H locs ls hP hS hl
  unfold nzl at ha
  by_cases h : y = 0
  · rw [if_pos h] at ha; cases ha
  · rw [if_neg h] at ha
    exact lv_lrem B.1.1 B.1.2.1 hd h (k h a ha H locs ls hP hS hl)
theorem r_if_eq (B : zGood E w tys cc own Ts rt rm) {x : Int32} {off : Int} (tgt : Nat) {o1 o2 : Option α} (hd : decode cc pc = .ok (.ifCond .eq off, 3)) (ht : (pc : Int) + off = (tgt : Int)) (kt : x = 0 → Xo E w em S tgt lv st o1) (kf : ¬ (x = 0) → Xo E w em S (pc + 3) lv st o2) : Xo E w em S pc lv (.int x :: st) (if x = 0 then o1 else o2) := by
  intro a ha H locs ls hP hS hl
  refine lv_if_eq B.1.1 B.1.2.1 hd ht (fun h => ?_) (fun h => ?_)
  · exact kt h a (by rw [if_pos h] at ha; exact ha) H locs ls hP hS hl
  · exact kf h a (by rw [if_neg h] at ha; exact ha) H locs ls hP hS hl
theorem r_icmp_eq (B : zGood E w tys cc own Ts rt rm) {x y : Int32} {off : Int} (tgt : Nat) {o1 o2 : Option α} (hd : decode cc pc = .ok (.if_icmp .eq off, 3)) (ht : (pc : Int) + off = (tgt : Int)) (kt : x = y → Xo E w em S tgt lv st o1) (kf : ¬ (x = y) → Xo E w em S (pc + 3) lv st o2) : Xo E w em S pc lv (.int y :: .int x :: st) (if x = y then o1 else o2) := by
  intro a ha H locs ls hP hS hl
  refine lv_icmp_eq B.1.1 B.1.2.1 hd ht (fun h => ?_) (fun h => ?_)
  · exact kt h a (by rw [if_pos h] at ha; exact ha) H locs ls hP hS hl
  · exact kf h a (by rw [if_neg h] at ha; exact ha) H locs ls hP hS hl
theorem r_if_lt (B : zGood E w tys cc own Ts rt rm) {x : Int32} {off : Int} (tgt : Nat) {o1 o2 : Option α} (hd : decode cc pc = .ok (.ifCond .lt off, 3)) (ht : (pc : Int) + off = (tgt : Int)) (kt : x < 0 → Xo E w em S tgt lv st o1) (kf : ¬ (x < 0) → Xo E w em S (pc + 3) lv st o2) : Xo E w em S pc lv (.int x :: st) (if x < 0 then o1 else o2) := by
  intro a ha H locs ls hP hS hl
  refine lv_if_lt B.1.1 B.1.2.1 hd ht (fun h => ?_) (fun h => ?_)
  · exact kt h a (by rw [if_pos h] at ha; exact ha) H locs ls hP hS hl
  · exact kf h a (by rw [if_neg h] at ha; exact ha) H locs ls hP hS hl
theorem r_icmp_lt (B : zGood E w tys cc own Ts rt rm) {x y : Int32} {off : Int} (tgt : Nat) {o1 o2 : Option α} (hd : decode cc pc = .ok (.if_icmp .lt off, 3)) (ht : (pc : Int) + off = (tgt : Int)) (kt : x < y → Xo E w em S tgt lv st o1) (kf : ¬ (x < y) → Xo E w em S (pc + 3) lv st o2) : Xo E w em S pc lv (.int y :: .int x :: st) (if x < y then o1 else o2) := by
  intro a ha H locs ls hP hS hl
  refine lv_icmp_lt B.1.1 B.1.2.1 hd ht (fun h => ?_) (fun h => ?_)
  · exact kt h a (by rw [if_pos h] at ha; exact ha) H locs ls hP hS hl
  · exact kf h a (by rw [if_neg h] at ha; exact ha) H locs ls hP hS hl
theorem r_if_ge (B : zGood E w tys cc own Ts rt rm) {x : Int32} {off : Int} (tgt : Nat) {o1 o2 : Option α} (hd : decode cc pc = .ok (.ifCond .ge off, 3)) (ht : (pc : Int) + off = (tgt : Int)) (kt : 0 ≤ x → Xo E w em S tgt lv st o1) (kf : ¬ (0 ≤ x) → Xo E w em S (pc + 3) lv st o2) : Xo E w em S pc lv (.int x :: st) (if 0 ≤ x then o1 else o2) := by
  intro a ha H locs ls hP hS hl
  refine lv_if_ge B.1.1 B.1.2.1 hd ht (fun h => ?_) (fun h => ?_)
  · exact kt h a (by rw [if_pos h] at ha; exact ha) H locs ls hP hS hl
  · exact kf h a (by rw [if_neg h] at ha; exact ha) H locs ls hP hS hl
theorem r_icmp_ge (B : zGood E w tys cc own Ts rt rm) {x y : Int32} {off : Int} (tgt : Nat) {o1 o2 : Option α} (hd : decode cc pc = .ok (.if_icmp .ge off, 3)) (ht : (pc : Int) + off = (tgt : Int)) (kt : y ≤ x → Xo E w em S tgt lv st o1) (kf : ¬ (y ≤ x) → Xo E w em S (pc + 3) lv st o2) : Xo E w em S pc lv (.int y :: .int x :: st) (if y ≤ x then o1 else o2) := by
  intro a ha H locs ls hP hS hl
  refine lv_icmp_ge B.1.1 B.1.2.1 hd ht (fun h => ?_) (fun h => ?_)
  · exact kt h a (by rw [if_pos h] at ha; exact ha) H locs ls hP hS hl
  · exact kf h a (by rw [if_neg h] at ha; exact ha) H locs ls hP hS hl
theorem r_if_gt (B : zGood E w tys cc own Ts rt rm) {x : Int32} {off : Int} (tgt : Nat) {o1 o2 : Option α} (hd : decode cc pc = .ok (.ifCond .gt off, 3)) (ht : (pc : Int) + off = (tgt : Int)) (kt : 0 < x → Xo E w em S tgt lv st o1) (kf : ¬ (0 < x) → Xo E w em S (pc + 3) lv st o2) : Xo E w em S pc lv (.int x :: st) (if 0 < x then o1 else o2) := by
  intro a ha H locs ls hP hS hl
  refine lv_if_gt B.1.1 B.1.2.1 hd ht (fun h => ?_) (fun h => ?_)
  · exact kt h a (by rw [if_pos h] at ha; exact ha) H locs ls hP hS hl
  · exact kf h a (by rw [if_neg h] at ha; exact ha) H locs ls hP hS hl
theorem r_icmp_gt (B : zGood E w tys cc own Ts rt rm) {x y : Int32} {off : Int} (tgt : Nat) {o1 o2 : Option α} (hd : decode cc pc = .ok (.if_icmp .gt off, 3)) (ht : (pc : Int) + off = (tgt : Int)) (kt : y < x → Xo E w em S tgt lv st o1) (kf : ¬ (y < x) → Xo E w em S (pc + 3) lv st o2) : Xo E w em S pc lv (.int y :: .int x :: st) (if y < x then o1 else o2) := by
  intro a ha H locs ls hP hS hl
  refine lv_icmp_gt B.1.1 B.1.2.1 hd ht (fun h => ?_) (fun h => ?_)
  · exact kt h a (by rw [if_pos h] at ha; exact ha) H locs ls hP hS hl
  · exact kf h a (by rw [if_neg h] at ha; exact ha) H locs ls hP hS hl
theorem r_if_le (B : zGood E w tys cc own Ts rt rm) {x : Int32} {off : Int} (tgt : Nat) {o1 o2 : Option α} (hd : decode cc pc = .ok (.ifCond .le off, 3)) (ht : (pc : Int) + off = (tgt : Int)) (kt : x ≤ 0 → Xo E w em S tgt lv st o1) (kf : ¬ (x ≤ 0) → Xo E w em S (pc + 3) lv st o2) : Xo E w em S pc lv (.int x :: st) (if x ≤ 0 then o1 else o2) := by
  intro a ha H locs ls hP hS hl
  refine lv_if_le B.1.1 B.1.2.1 hd ht (fun h => ?_) (fun h => ?_)
  · exact kt h a (by rw [if_pos h] at ha; exact ha) H locs ls hP hS hl
  · exact kf h a (by rw [if_neg h] at ha; exact ha) H locs ls hP hS hl
theorem r_icmp_le (B : zGood E w tys cc own Ts rt rm) {x y : Int32} {off : Int} (tgt : Nat) {o1 o2 : Option α} (hd : decode cc pc = .ok (.if_icmp .le off, 3)) (ht : (pc : Int) + off = (tgt : Int)) (kt : x ≤ y → Xo E w em S tgt lv st o1) (kf : ¬ (x ≤ y) → Xo E w em S (pc + 3) lv st o2) : Xo E w em S pc lv (.int y :: .int x :: st) (if x ≤ y then o1 else o2) := by
  intro a ha H locs ls hP hS hl
  refine lv_icmp_le B.1.1 B.1.2.1 hd ht (fun h => ?_) (fun h => ?_)
  · exact kt h a (by rw [if_pos h] at ha; exact ha) H locs ls hP hS hl
  · exact kf h a (by rw [if_neg h] at ha; exact ha) H locs ls hP hS hl
theorem r_if_ne (B : zGood E w tys cc own Ts rt rm) {x : Int32} {off : Int} (tgt : Nat) {o1 o2 : Option α} (hd : decode cc pc = .ok (.ifCond .ne off, 3)) (ht : (pc : Int) + off = (tgt : Int)) (kt : ¬ x = 0 → Xo E w em S tgt lv st o1) (kf : x = 0 → Xo E w em S (pc + 3) lv st o2) : Xo E w em S pc lv (.int x :: st) (if x = 0 then o2 else o1) := by
  intro a ha H locs ls hP hS hl
  refine lv_if_ne B.1.1 B.1.2.1 hd ht (fun h => ?_) (fun h => ?_)
  · exact kt h a (by rw [if_neg h] at ha; exact ha) H locs ls hP hS hl
  · exact kf h a (by rw [if_pos h] at ha; exact ha) H locs ls hP hS hl
theorem r_icmp_ne (B : zGood E w tys cc own Ts rt rm) {x y : Int32} {off : Int} (tgt : Nat) {o1 o2 : Option α} (hd : decode cc pc = .ok (.if_icmp .ne off, 3)) (ht : (pc : Int) + off = (tgt : Int)) (kt : ¬ x = y → Xo E w em S tgt lv st o1) (kf : x = y → Xo E w em S (pc + 3) lv st o2) : Xo E w em S pc lv (.int y :: .int x :: st) (if x = y then o2 else o1) := by
  intro a ha H locs ls hP hS hl
  refine lv_icmp_ne B.1.1 B.1.2.1 hd ht (fun h => ?_) (fun h => ?_)
  · exact kt h a (by rw [if_neg h] at ha; exact ha) H locs ls hP hS hl
  · exact kf h a (by rw [if_pos h] at ha; exact ha) H locs ls hP hS hl
theorem r_goto (B : zGood E w tys cc own Ts rt rm) {off : Int} (tgt : Nat) (hd : decode cc pc = .ok (.goto off, 3)) (ht : (pc : Int) + off = (tgt : Int)) (k : Xo E w em S tgt lv st o) : Xo E w em S pc lv st o := fun a ha H locs ls hP hS hl => lv_goto B.1.1 B.1.2.1 hd ht (k a ha H locs ls hP hS hl)
theorem r_tabOut (B : zGood E w tys cc own Ts rt rm) {dflt lo hi : Int} {offs : Array Int} {len : Nat} {x : Int32} (tgt : Nat) (hd : decode cc pc = .ok (.tableswitch dflt lo hi offs, len)) (h : x.toInt < lo ∨ hi < x.toInt) (ht : (pc : Int) + dflt = (tgt : Int)) (k : Xo E w em S tgt lv st o) : Xo E w em S pc lv (.int x :: st) o := fun a ha H locs ls hP hS hl => lv_tableOut B.1.1 B.1.2.1 hd h ht (k a ha H locs ls hP hS hl)
theorem r_tabIn (B : zGood E w tys cc own Ts rt rm) {dflt lo hi : Int} {offs : Array Int} {len : Nat} {x : Int32} {off : Int} (tgt : Nat) (hd : decode cc pc = .ok (.tableswitch dflt lo hi offs, len)) (h1 : ¬ x.toInt < lo) (h2 : ¬ hi < x.toInt) (ho : offs[(x.toInt - lo).toNat]? = some off) (ht : (pc : Int) + off = (tgt : Int)) (k : Xo E w em S tgt lv st o) : Xo E w em S pc lv (.int x :: st) o := fun a ha H locs ls hP hS hl => lv_tableIn B.1.1 B.1.2.1 hd h1 h2 ho ht (k a ha H locs ls hP hS hl)
theorem r_swc (c : Int32) {x : Int32} {o1 o2 : Option α} (k1 : Xo E w em S pc lv (.int c :: st) o1) (k2 : ¬ x = c → Xo E w em S pc lv (.int x :: st) o2) : Xo E w em S pc lv (.int x :: st) (if x = c then o1 else o2) := by
  by_cases h : x = c
  · rw [if_pos h, h]; exact k1
  · rw [if_neg h]; exact k2 h
theorem zQ_mk {D : va_G} {w : zWl} {v : Option Value} {S : zSt} {args : Array Value} {s t : State} {H : Heap} {locs : List Loc} (hP : va_P D vwCl (zws w S) H) (hS : va_S (zAA w s.heap.size) s.heap H locs) (ht : t.heap = H) : zQ D w (v, S) args s (.returned v) t := ⟨rfl, by rw [ht]; exact hP, hS.F ht⟩
theorem r_iret {em : α → zOut} (B : zGood E w tys cc own Ts (some .int) rm) {v : Int32} {b : α} (hd : decode cc pc = .ok (.ireturn, 1)) (he : em b = (some (.int v), S)) : Xo E w em S pc lv [.int v] (some b) := by
  intro a ha H locs ls hP hS hl
  cases ha
  rw [he]
  exact W.iret B.1.1 B.1.2.1 B.2.2.2.2.1 (fun t ht hW => zQ_mk hP hS ht) hS.2.2 hd B.2.2.2.1
theorem r_lret {em : α → zOut} (B : zGood E w tys cc own Ts (some .long) rm) {v : Int64} {b : α} (hd : decode cc pc = .ok (.lreturn, 1)) (he : em b = (some (.long v), S)) : Xo E w em S pc lv [.long v] (some b) := by
  intro a ha H locs ls hP hS hl
  cases ha
  rw [he]
  exact W.lret B.1.1 B.1.2.1 B.2.2.2.2.1 (fun t ht hW => zQ_mk hP hS ht) hS.2.2 hd B.2.2.2.1
theorem r_zret {em : α → zOut} (B : zGood E w tys cc own Ts (some .boolean) rm) {v : Int32} {b : α} (hd : decode cc pc = .ok (.ireturn, 1)) (he : em b = (some (.int v), S)) : Xo E w em S pc lv [.int v] (zb v (some b)) := by
  intro a ha H locs ls hP hS hl
  unfold zb at ha
  by_cases h : v = 0 ∨ v = 1
  · rw [if_pos h] at ha
    cases ha
    rw [he]
    exact W.zret B.1.1 B.1.2.1 B.2.2.2.2.1 (by rcases h with rfl | rfl <;> decide +kernel) (fun t ht hW => zQ_mk hP hS ht) hS.2.2 hd B.2.2.2.1
  · rw [if_neg h] at ha; cases ha
theorem r_zret0 {em : α → zOut} (B : zGood E w tys cc own Ts (some .boolean) rm) {b : α} (hd : decode cc pc = .ok (.ireturn, 1)) (he : em b = (some (.int 0), S)) : Xo E w em S pc lv [.int 0] (some b) := by
  intro a ha H locs ls hP hS hl
  cases ha
  rw [he]
  exact W.zret B.1.1 B.1.2.1 B.2.2.2.2.1 (by decide +kernel) (fun t ht hW => zQ_mk hP hS ht) hS.2.2 hd B.2.2.2.1
theorem r_zret1 {em : α → zOut} (B : zGood E w tys cc own Ts (some .boolean) rm) {b : α} (hd : decode cc pc = .ok (.ireturn, 1)) (he : em b = (some (.int 1), S)) : Xo E w em S pc lv [.int 1] (some b) := by
  intro a ha H locs ls hP hS hl
  cases ha
  rw [he]
  exact W.zret B.1.1 B.1.2.1 B.2.2.2.2.1 (by decide +kernel) (fun t ht hW => zQ_mk hP hS ht) hS.2.2 hd B.2.2.2.1
theorem r_vret {em : α → zOut} (B : zGood E w tys cc own Ts none rm) {b : α} (hd : decode cc pc = .ok (.return_, 1)) (he : em b = (none, S)) : Xo E w em S pc lv [] (some b) := by
  intro a ha H locs ls hP hS hl
  cases ha
  rw [he]
  exact W.vret B.1.1 B.1.2.1 B.2.2.2.2.1 (fun t ht hW => zQ_mk hP hS ht) hS.2.2 hd B.2.2.2.1
theorem r_get (B : zGood E w tys cc own Ts rt rm) (k ci j : Nat) {ad : Nat} {fs : List Value} {v : Value} {C : String} {T : u_T} {N idx : Nat} (hk : k < w.1) (ha : w.2.1 k = ad) (hc : w.2.2 S k = .inr (ci, fs)) (hcl : vwCl[ci]? = some (C, T, N)) (hin : ∀ x ∈ u_ws C T N, x ∈ Ts) (hj : j < N) (hm : Cond.fieldLink own idx (T j).1 (T j).2.1 (T j).2.2.1 ∈ Ts) (hv : fs[j]? = some v) (hd : decode cc pc = .ok (.getfield idx, 3)) (kk : Xo E w em S (pc + 3) lv (v :: st) o) : Xo E w em S pc lv (.ref ad :: st) o := by
  intro a h H locs ls hP hS hl
  subst ha
  exact va_get B.1.1 B.1.2.1 B.1.2.2.2.2 hin B.1.2.2.2.1 B.2.1 hP k (by rw [zws_get hk, hc]) hcl j hj (B.1.2.2.2.2 _ hm) (fun _ h9 => h9) hv hd (kk a h H locs ls hP hS hl)
theorem r_put (B : zGood E w tys cc own Ts rt rm) (k ci j : Nat) {ad : Nat} {S' : zSt} {fs : List Value} {v : Value} {ty : FieldType} {C : String} {T : u_T} {N idx : Nat} (ty0 : Nat → FieldType) (hty : ∀ k, k < N → parseFieldDescriptor (T k).2.2.1 = some (ty0 k)) (hnm : ∀ a, a < N → ∀ b, b < N → a ≠ b → (T a).2.1 ≠ (T b).2.1) (hk : k < w.1) (ha : w.2.1 k = ad) (hc : w.2.2 S k = .inr (ci, fs)) (hcl : vwCl[ci]? = some (C, T, N)) (hin : ∀ x ∈ u_ws C T N, x ∈ Ts) (hj : j < N) (hm : Cond.fieldLink own idx (T j).1 (T j).2.1 (T j).2.2.1 ∈ Ts) (hfin : (T j).2.2.2 = false) (hds : parseFieldDescriptor (T j).2.2.1 = some ty) (hn : narrow ty v = v) (hfit : fits ty v = true) (hl' : j < fs.length) (hs : w.2.2 S' k = .inr (ci, fs.set j v) ∧ ∀ i, i ≠ k → w.2.2 S' i = w.2.2 S i) {f : zSt → Option α} (hd : decode cc pc = .ok (.putfield idx, 3)) (kk : ∀ S1 : zSt, Xo E w em S1 (pc + 3) lv st (f S1)) : Xo E w em S pc lv (v :: .ref ad :: st) (lt S' f) := by
  intro a h H locs ls hP hS hl
  subst ha
  refine va_put B.1.1 B.1.2.1 B.1.2.2.2.2 hin ty0 hty hnm B.1.2.2.2.1 B.2.1 hP (zD B.2.2.1 S _) hS k (by rw [zws_get hk, hc]) hcl j hj (B.1.2.2.2.2 _ hm) (fun _ h9 => h9) hfin hds hn hfit hl' hd (fun H1 locs1 hP1 _ hS1 => ?_)
  rw [← hs.1, zws_set hk hs.2] at hP1
  exact kk S' a h H1 locs1 ls hP1 hS1 hl
theorem r_iald (B : zGood E w tys cc own Ts rt rm) (k t0 : Nat) {ad n : Nat} {cA : ClassId} {i : Int32} {f : Nat → Int32} (hk : k < w.1) (ha : w.2.1 k = ad) (hc : w.2.2 S k = .inl (cA, n, .inl f)) (ht : tys[t0]? = some (cA, .int)) (hd : decode cc pc = .ok (.iaload, 1)) (kk : Xo E w em S (pc + 1) lv (.int (f i.toNatClampNeg) :: st) o) : Xo E w em S pc lv (.int i :: .ref ad :: st) (ibd i n o) := by
  intro a h H locs ls hP hS hl
  subst ha
  unfold ibd at h
  by_cases hi : i < 0 ∨ n ≤ i.toNatClampNeg
  · rw [if_pos hi] at h; cases h
  · rw [if_neg hi] at h
    exact va_iald B.1.1 B.1.2.1 B.2.1 hP k t0 (by rw [zws_get hk, hc]) ht hi hd (kk a h H locs ls hP hS hl)
theorem r_zald (B : zGood E w tys cc own Ts rt rm) (k t0 : Nat) {ad n : Nat} {cA : ClassId} {i : Int32} {f : Nat → Int32} (hk : k < w.1) (ha : w.2.1 k = ad) (hc : w.2.2 S k = .inl (cA, n, .inl f)) (ht : tys[t0]? = some (cA, .boolean)) (hd : decode cc pc = .ok (.baload, 1)) (kk : Xo E w em S (pc + 1) lv (.int (f i.toNatClampNeg) :: st) o) : Xo E w em S pc lv (.int i :: .ref ad :: st) (ibd i n o) := by
  intro a h H locs ls hP hS hl
  subst ha
  unfold ibd at h
  by_cases hi : i < 0 ∨ n ≤ i.toNatClampNeg
  · rw [if_pos hi] at h; cases h
  · rw [if_neg hi] at h
    exact va_zald B.1.1 B.1.2.1 B.2.1 hP k t0 (by rw [zws_get hk, hc]) ht hi hd (kk a h H locs ls hP hS hl)
theorem r_lald (B : zGood E w tys cc own Ts rt rm) (k t0 : Nat) {ad n : Nat} {cA : ClassId} {i : Int32} {f : Nat → Int64} (hk : k < w.1) (ha : w.2.1 k = ad) (hc : w.2.2 S k = .inl (cA, n, .inr (.inl f))) (ht : tys[t0]? = some (cA, .long)) (hd : decode cc pc = .ok (.laload, 1)) (kk : Xo E w em S (pc + 1) lv (.long (f i.toNatClampNeg) :: st) o) : Xo E w em S pc lv (.int i :: .ref ad :: st) (ibd i n o) := by
  intro a h H locs ls hP hS hl
  subst ha
  unfold ibd at h
  by_cases hi : i < 0 ∨ n ≤ i.toNatClampNeg
  · rw [if_pos hi] at h; cases h
  · rw [if_neg hi] at h
    exact va_lald B.1.1 B.1.2.1 B.2.1 hP k t0 (by rw [zws_get hk, hc]) ht hi hd (kk a h H locs ls hP hS hl)
theorem r_aald (B : zGood E w tys cc own Ts rt rm) (k t0 : Nat) {ad n : Nat} {cA : ClassId} {ty : FieldType} {i : Int32} {f : Nat → Nat} (hk : k < w.1) (ha : w.2.1 k = ad) (hc : w.2.2 S k = .inl (cA, n, .inr (.inr (.inr (.inr (fun z => some (f z))))))) (ht : tys[t0]? = some (cA, .array ty)) (hd : decode cc pc = .ok (.aaload, 1)) (kk : i.toNatClampNeg < n → Xo E w em S (pc + 1) lv (.ref (f i.toNatClampNeg) :: st) o) : Xo E w em S pc lv (.int i :: .ref ad :: st) (ibd i n o) := by
  intro a h H locs ls hP hS hl
  subst ha
  unfold ibd at h
  by_cases hi : i < 0 ∨ n ≤ i.toNatClampNeg
  · rw [if_pos hi] at h; cases h
  · rw [if_neg hi] at h
    have hlt : i.toNatClampNeg < n := Nat.not_le.mp fun q => hi (Or.inr q)
    have hc2 : (zws w S)[k]? = some (w.2.1 k, .inl (cA, n, .inr (.inr (.inr (.inr (fun z => some (f z))))))) := by rw [zws_get hk, hc]
    exact W.aald (v := va_rf (some (f i.toNatClampNeg))) (ty := .array ty) B.1.1 B.1.2.1 (hP k _ hc2) ((B.2.1.2 t0 _ ht).1 n (fun j => va_rf (some (f j)))) rfl (fun q => by cases q) (by show ¬ (i < 0 ∨ (arrV _ _ _).slots.size ≤ _); rw [arrV_size]; exact hi) (by show (arrV _ _ _).slots[_]? = _; rw [arrV_read _ _ hlt]) rfl rfl hd (kk hlt a h H locs ls hP hS hl)
theorem r_iast (B : zGood E w tys cc own Ts rt rm) (k t0 : Nat) {ad n : Nat} {S' : zSt} {cA : ClassId} {i x : Int32} {f : Nat → Int32} (hk : k < w.1) (ha : w.2.1 k = ad) (hc : w.2.2 S k = .inl (cA, n, .inl f)) (ht : tys[t0]? = some (cA, .int)) (hs : w.2.2 S' k = .inl (cA, n, .inl (upd f i.toNatClampNeg x)) ∧ ∀ j, j ≠ k → w.2.2 S' j = w.2.2 S j) {f9 : zSt → Option α} (hd : decode cc pc = .ok (.iastore, 1)) (kk : ∀ S1 : zSt, Xo E w em S1 (pc + 1) lv st (f9 S1)) : Xo E w em S pc lv (.int x :: .int i :: .ref ad :: st) (ibd i n (lt S' f9)) := by
  intro a h H locs ls hP hS hl
  subst ha
  unfold ibd at h
  by_cases hi : i < 0 ∨ n ≤ i.toNatClampNeg
  · rw [if_pos hi] at h; cases h
  · rw [if_neg hi] at h
    refine va_iast B.1.1 B.1.2.1 B.2.1 hP (zD B.2.2.1 S _) hS k t0 (by rw [zws_get hk, hc]) ht hi hd (fun H1 locs1 hP1 _ hS1 => ?_)
    rw [← hs.1, zws_set hk hs.2] at hP1
    exact kk S' a h H1 locs1 ls hP1 hS1 hl
theorem r_last (B : zGood E w tys cc own Ts rt rm) (k t0 : Nat) {ad n : Nat} {S' : zSt} {cA : ClassId} {i : Int32} {x : Int64} {f : Nat → Int64} (hk : k < w.1) (ha : w.2.1 k = ad) (hc : w.2.2 S k = .inl (cA, n, .inr (.inl f))) (ht : tys[t0]? = some (cA, .long)) (hs : w.2.2 S' k = .inl (cA, n, .inr (.inl (vp_updL f i.toNatClampNeg x))) ∧ ∀ j, j ≠ k → w.2.2 S' j = w.2.2 S j) {f9 : zSt → Option α} (hd : decode cc pc = .ok (.lastore, 1)) (kk : ∀ S1 : zSt, Xo E w em S1 (pc + 1) lv st (f9 S1)) : Xo E w em S pc lv (.long x :: .int i :: .ref ad :: st) (ibd i n (lt S' f9)) := by
  intro a h H locs ls hP hS hl
  subst ha
  unfold ibd at h
  by_cases hi : i < 0 ∨ n ≤ i.toNatClampNeg
  · rw [if_pos hi] at h; cases h
  · rw [if_neg hi] at h
    refine va_last B.1.1 B.1.2.1 B.2.1 hP (zD B.2.2.1 S _) hS k t0 (by rw [zws_get hk, hc]) ht hi hd (fun H1 locs1 hP1 _ hS1 => ?_)
    rw [← hs.1, zws_set hk hs.2] at hP1
    exact kk S' a h H1 locs1 ls hP1 hS1 hl
theorem r_zast (B : zGood E w tys cc own Ts rt rm) (k t0 : Nat) {ad n : Nat} {S' : zSt} {cA : ClassId} {i x : Int32} {f : Nat → Int32} (hk : k < w.1) (ha : w.2.1 k = ad) (hc : w.2.2 S k = .inl (cA, n, .inl f)) (ht : tys[t0]? = some (cA, .boolean)) (hx : vp_nar .boolean x = x) (hs : w.2.2 S' k = .inl (cA, n, .inl (upd f i.toNatClampNeg x)) ∧ ∀ j, j ≠ k → w.2.2 S' j = w.2.2 S j) {f9 : zSt → Option α} (hd : decode cc pc = .ok (.bastore, 1)) (kk : ∀ S1 : zSt, Xo E w em S1 (pc + 1) lv st (f9 S1)) : Xo E w em S pc lv (.int x :: .int i :: .ref ad :: st) (ibd i n (lt S' f9)) := by
  intro a h H locs ls hP hS hl
  subst ha
  unfold ibd at h
  by_cases hi : i < 0 ∨ n ≤ i.toNatClampNeg
  · rw [if_pos hi] at h; cases h
  · rw [if_neg hi] at h
    refine va_zast B.1.1 B.1.2.1 B.2.1 hP (zD B.2.2.1 S _) hS k t0 (by rw [zws_get hk, hc]) ht hi hd (fun H1 locs1 hP1 _ hS1 => ?_)
    rw [hx, ← hs.1, zws_set hk hs.2] at hP1
    exact kk S' a h H1 locs1 ls hP1 hS1 hl
/-- System.arraycopy within rows of ints -/
def zcp {α : Type} (sp dp n : Int32) (n0 n1 : Nat) (o : Option α) : Option α := if (sp < 0 ∨ dp < 0 ∨ n < 0) ∨ n0 < sp.toNatClampNeg + n.toNatClampNeg ∨ n1 < dp.toNatClampNeg + n.toNatClampNeg then none else o
theorem r_copy (B : zGood E w tys cc own Ts rt rm) (k0 k1 t0 : Nat) {a0 a1 n0 n1 idx : Nat} {S' : zSt} {cA : ClassId} {sp dp n : Int32} {f g : Nat → Int32} (hk0 : k0 < w.1) (hk1 : k1 < w.1) (ha0 : w.2.1 k0 = a0) (ha1 : w.2.1 k1 = a1) (hc0 : w.2.2 S k0 = .inl (cA, n0, .inl f)) (hc1 : w.2.2 S k1 = .inl (cA, n1, .inl g)) (ht : tys[t0]? = some (cA, .int)) (hs : w.2.2 S' k1 = .inl (cA, n1, .inl (va_cpy f g sp.toNatClampNeg dp.toNatClampNeg n.toNatClampNeg)) ∧ ∀ j, j ≠ k1 → w.2.2 S' j = w.2.2 S j)
    (hl1 : Cond.methodLink own idx arraycopyName ∈ Ts) (hl2 : Cond.native arraycopyName ∈ Ts) (hl3 : Cond.static arraycopyName ∈ Ts) (hl4 : Cond.initialized "java/lang/System" ∈ Ts) (hfr : 1 ≤ rm.frames) (hlo : (st.map fun v => v.category).sum + (nativeFrameWords "java/lang/System" "arraycopy" 5 + 11) ≤ rm.locals) {f9 : zSt → Option α} (hd : decode cc pc = .ok (.invokestatic idx, 3)) (kk : ∀ S1 : zSt, Xo E w em S1 (pc + 3) lv st (f9 S1)) : Xo E w em S pc lv (.int n :: .int dp :: .ref a1 :: .int sp :: .ref a0 :: st) (zcp sp dp n n0 n1 (lt S' f9)) := by
  intro a h H locs ls hP hS hl
  subst ha0
  subst ha1
  unfold zcp at h
  by_cases hi : (sp < 0 ∨ dp < 0 ∨ n < 0) ∨ n0 < sp.toNatClampNeg + n.toNatClampNeg ∨ n1 < dp.toNatClampNeg + n.toNatClampNeg
  · rw [if_pos hi] at h; cases h
  · rw [if_neg hi] at h
    have h1 : ¬ sp < 0 := fun q => hi (Or.inl (Or.inl q))
    have h2 : ¬ dp < 0 := fun q => hi (Or.inl (Or.inr (Or.inl q)))
    have h3 : ¬ n < 0 := fun q => hi (Or.inl (Or.inr (Or.inr q)))
    have h4 : sp.toNatClampNeg + n.toNatClampNeg ≤ n0 := Nat.not_lt.mp fun q => hi (Or.inr (Or.inl q))
    have h5 : dp.toNatClampNeg + n.toNatClampNeg ≤ n1 := Nat.not_lt.mp fun q => hi (Or.inr (Or.inr q))
    have hR : E.1.2.2.2.1 = rm := B.2.2.2.2.2.1
    refine va_copyi B.1.1 B.1.2.1 (by rw [B.1.2.2.1]; exact hl.1.symm) B.1.2.2.2.1 (B.1.2.2.2.2 _ hl1) (B.1.2.2.2.2 _ hl2) (B.1.2.2.2.2 _ hl3) (B.1.2.2.2.2 _ hl4) B.2.1 hP (zD B.2.2.1 S _) hS k0 k1 t0 t0 (by rw [zws_get hk0, hc0]) (by rw [zws_get hk1, hc1]) ht ht rfl h1 h2 h3 h4 h5 (fun _ _ => rfl) (by rw [hR]; exact hfr) (by rw [hR]; exact hlo) hd (fun H1 locs1 hP1 _ hS1 => ?_)
    rw [← hs.1, zws_set hk1 hs.2] at hP1
    exact kk S' a h H1 locs1 ls hP1 hS1 hl
def zmax (x y : Int32) : Int32 := if x < y then y else x
def zmin (x y : Int32) : Int32 := if y < x then y else x
theorem r_mmax (B : zGood E w tys cc own Ts rt rm) {idx : Nat} {x y : Int32} (hl1 : Cond.methodLink own idx Lib.Math.max.name ∈ Ts) (hl2 : Cond.static Lib.Math.max.name ∈ Ts) (hl3 : Cond.initialized "java/lang/Math" ∈ Ts) (hl4 : Cond.code Lib.Math.max.name Lib.Math.max.code 2 (some .int) ∈ Ts) (hfr : 1 ≤ rm.frames) (hlo : (st.map fun v => v.category).sum + 13 ≤ rm.locals) (hd : decode cc pc = .ok (.invokestatic idx, 3)) (k : Xo E w em S (pc + 3) lv (.int (zmax x y) :: st) o) : Xo E w em S pc lv (.int y :: .int x :: st) o := fun a ha H locs ls hP hS hl => va_mmax B.1.1 B.1.2.1 (by rw [B.1.2.2.1]; exact hl.1.symm) B.1.2.2.2.1 (B.1.2.2.2.2 _ hl1) (B.1.2.2.2.2 _ hl2) (B.1.2.2.2.2 _ hl3) (B.1.2.2.2.2 _ hl4) (by rw [show E.1.2.2.2.1 = rm from B.2.2.2.2.2.1]; exact hfr) (by rw [show E.1.2.2.2.1 = rm from B.2.2.2.2.2.1]; exact hlo) (Nat.zero_le _) (Nat.zero_le _) hd (k a ha H locs ls hP hS hl)
theorem r_mmin (B : zGood E w tys cc own Ts rt rm) {idx : Nat} {x y : Int32} (hl1 : Cond.methodLink own idx Lib.Math.min.name ∈ Ts) (hl2 : Cond.static Lib.Math.min.name ∈ Ts) (hl3 : Cond.initialized "java/lang/Math" ∈ Ts) (hl4 : Cond.code Lib.Math.min.name Lib.Math.min.code 2 (some .int) ∈ Ts) (hfr : 1 ≤ rm.frames) (hlo : (st.map fun v => v.category).sum + 13 ≤ rm.locals) (hd : decode cc pc = .ok (.invokestatic idx, 3)) (k : Xo E w em S (pc + 3) lv (.int (zmin x y) :: st) o) : Xo E w em S pc lv (.int y :: .int x :: st) o := fun a ha H locs ls hP hS hl => va_mmin B.1.1 B.1.2.1 (by rw [B.1.2.2.1]; exact hl.1.symm) B.1.2.2.2.1 (B.1.2.2.2.2 _ hl1) (B.1.2.2.2.2 _ hl2) (B.1.2.2.2.2 _ hl3) (B.1.2.2.2.2 _ hl4) (by rw [show E.1.2.2.2.1 = rm from B.2.2.2.2.2.1]; exact hfr) (by rw [show E.1.2.2.2.1 = rm from B.2.2.2.2.2.1]; exact hlo) (Nat.zero_le _) (Nat.zero_le _) hd (k a ha H locs ls hP hS hl)
theorem r_jn2 {τ : Type} (P : τ → Prop) {f : τ} {g : τ → Option α} (hf : P f) (k : ∀ j, P j → Xo E w em S pc lv st (g j)) : Xo E w em S pc lv st (jn f g) := k f hf
/-- what a call comes to -/
def zCR (E : zCx) (w : zWl) (em : β → zOut) (S : zSt) (pc : Nat) (st0 rest : List Value) (F : Option β) : Prop :=
  ∀ b, F = some b → ∀ (H : Heap) (locs : List Loc) (ls : Array Slot), va_P E.2.1 vwCl (zws w S) H → va_S (zAA w E.1.2.2.2.2.1.heap.size) E.1.2.2.2.2.1.heap H locs → ls.size = E.2.2 →
    va_Run E.1.1 E.1.2.1 E.1.2.2.1 E.1.2.2.2.1 E.1.2.2.2.2.1 E.1.2.2.2.2.2.1 E.1.2.2.2.2.2.2.1 E.1.2.2.2.2.2.2.2.1 E.1.2.2.2.2.2.2.2.2.1 E.1.2.2.2.2.2.2.2.2.2 H locs 0 0 0 0 (F0 E.1.2.2.2.2.2.1 pc ls st0) rest (zQ E.2.1 w (em b) #[]) (zAA w H.size)
theorem zP_blind {D : va_G} {w : zWl} {tys : zTy} {S : zSt} {sz : Nat} {as : List Value} : FrameBlind (zP D w tys S sz as) := fun a U g mk q => by
  obtain ⟨q0, q1, qP, qK, qN⟩ := q
  exact ⟨q0, q1, qP, va_K.moved (u := U) (U := U.calling g mk a) (Vm.Alike.refl U.vm) qK, zNs.same (U := U.calling g mk a) rfl qN⟩
theorem zrunV (B : zGood E w tys cc own Ts rt rm) {em' : β → zOut} {F : Option β} {y : MethodName} {ws ws' : List Cond} {bytes : ByteArray} {maxL idx : Nat} {ret : Option FieldType} {rm' : Room} {As rest st0 : List Value} {ad ci : Nat} {fs : List Value} {q : vw_C} (n k : Nat) (hM : ∀ b, F = some b → zMet E.1.2.1 E.2.1 w tys y ws rm' S (.ref ad :: As) (em' b)) (hG : GoodIn Ts (wsV own idx q.1 y ws)) (hw : ws = Cond.code y bytes maxL ret :: ws') (hrc : rm'.cells = 0) (hrs : rm'.slots = 0)
    (hdd : y.cls = q.1 ∧ y.cls ≠ "java/lang/invoke/MethodHandle" ∧ y.cls ≠ "java/lang/invoke/VarHandle" ∧ (parseMethodDescriptor y.desc).map (fun d => d.parameters.length) = some n) (hR : rm'.frames + 1 ≤ rm.frames ∧ 8 + (maxL + 11) + rm'.locals ≤ rm.locals) (hk : k < w.1) (ha : w.2.1 k = ad) (hc : w.2.2 S k = .inr (ci, fs)) (hcl : vwCl[ci]? = some q) (hn : As.length = n) (hst : st0 = As.reverse ++ .ref ad :: rest) (hrest : (rest.map fun v => v.category).sum ≤ 8) (hd : decode cc pc = .ok (.invokevirtual idx, 3)) : zCR E w em' S pc st0 rest F := by
  intro b hb H locs ls hP hS hl
  subst ha
  have hRR : E.1.2.2.2.1 = rm := B.2.2.2.2.2.1
  exact va_runV (As := As) (rest := rest) B.1 (hM b hb H.size) (cwV n B.1.2.2.2.2 hG hw hrc hrs hdd (by rw [hRR]; exact hR)) ⟨zP_blind, va_recv B.2.1 hP (ci := ci) (q0 := k) hcl (by rw [zws_get hk, hc]), fun U hU hW => ⟨rfl, by rw [hU], by rw [hU]; exact hP, va_K.moved hW.alike B.2.1, zNs.warm hW B.2.2.2.2.2.2⟩⟩ rfl hn hl hst (lv_room hrest) hd ⟨Nat.zero_le _, Nat.zero_le _⟩
theorem zrunS (B : zGood E w tys cc own Ts rt rm) {em' : β → zOut} {F : Option β} {y : MethodName} {ws ws' : List Cond} {bytes : ByteArray} {maxL idx : Nat} {ret : Option FieldType} {rm' : Room} {As rest st0 : List Value} (n : Nat) (hM : ∀ b, F = some b → zMet E.1.2.1 E.2.1 w tys y ws rm' S As (em' b)) (hG : GoodIn Ts (va_wsS own idx y ws)) (hw : ws = Cond.code y bytes maxL ret :: ws') (hrc : rm'.cells = 0) (hrs : rm'.slots = 0)
    (hdd : y.cls ≠ "java/lang/invoke/MethodHandle" ∧ y.cls ≠ "java/lang/invoke/VarHandle" ∧ (parseMethodDescriptor y.desc).map (fun d => d.parameters.length) = some n) (hR : rm'.frames + 1 ≤ rm.frames ∧ 8 + (maxL + 11) + rm'.locals ≤ rm.locals) (hn : As.length = n) (hst : st0 = As.reverse ++ rest) (hrest : (rest.map fun v => v.category).sum ≤ 8) (hd : decode cc pc = .ok (.invokestatic idx, 3)) : zCR E w em' S pc st0 rest F := by
  intro b hb H locs ls hP hS hl
  have hRR : E.1.2.2.2.1 = rm := B.2.2.2.2.2.1
  exact va_runS (As := As) (rest := rest) B.1 (hM b hb H.size) (va_cwS n B.1.2.2.2.2 hG hw hrc hrs hdd (by rw [hRR]; exact hR)) ⟨zP_blind, fun U hU hW => ⟨rfl, by rw [hU], by rw [hU]; exact hP, va_K.moved hW.alike B.2.1, zNs.warm hW B.2.2.2.2.2.2⟩⟩ rfl hn hl hst (lv_room hrest) hd ⟨Nat.zero_le _, Nat.zero_le _⟩
theorem zrunSN (B : zGood E w tys cc own Ts rt rm) {em' : β → zOut} {F : Option β} {y : MethodName} {ws ws' : List Cond} {bytes : ByteArray} {maxL idx : Nat} {ret : Option FieldType} {rm' : Room} {As rest st0 : List Value} {host : String} (n : Nat) (hM : ∀ b, F = some b → zMet E.1.2.1 E.2.1 w tys y ws rm' S As (em' b)) (hG : GoodIn Ts ws) (hw : ws = Cond.code y bytes maxL ret :: ws') (hrc : rm'.cells = 0) (hrs : rm'.slots = 0)
    (hl1 : va_Nw (.methodLinkNest own idx y host) E.1.2.2.2.2.1) (hl2 : Cond.initialized y.cls ∈ Ts) (hl3 : Cond.static y ∈ Ts) (hdd : y.cls ≠ "java/lang/invoke/MethodHandle" ∧ y.cls ≠ "java/lang/invoke/VarHandle" ∧ (parseMethodDescriptor y.desc).map (fun d => d.parameters.length) = some n) (hR : rm'.frames + 1 ≤ rm.frames ∧ 8 + (maxL + 11) + rm'.locals ≤ rm.locals) (hn : As.length = n) (hst : st0 = As.reverse ++ rest) (hrest : (rest.map fun v => v.category).sum ≤ 8) (hd : decode cc pc = .ok (.invokestatic idx, 3)) : zCR E w em' S pc st0 rest F := by
  intro b hb H locs ls hP hS hl
  have hRR : E.1.2.2.2.1 = rm := B.2.2.2.2.2.1
  exact va_runSN (As := As) (rest := rest) (host := host) B.1 (hM b hb H.size) ⟨va_cnB n B.1.2.2.2.2 hG hw hrc hrs hl1 (B.1.2.2.2.2 _ hl2) hdd (by rw [hRR]; exact hR), B.1.2.2.2.2 _ hl3, trivial⟩ ⟨zP_blind, fun U hU hW => ⟨rfl, by rw [hU], by rw [hU]; exact hP, va_K.moved hW.alike B.2.1, zNs.warm hW B.2.2.2.2.2.2⟩⟩ rfl hn hl hst (lv_room hrest) hd ⟨Nat.zero_le _, Nat.zero_le _⟩
theorem r_call {em' : β → zOut} {F : Option β} {f : β → Option α} {st0 rest : List Value} (hr : zCR E w em' S pc st0 rest F) (k : ∀ b, F = some b → Xo E w em (em' b).2 (pc + 3) lv ((em' b).1.toList ++ rest) (f b)) : Xo E w em S pc lv st0 (F.bind f) := by
  intro a ha H locs ls hP hS hl T hT X
  cases hF : F with
  | none => rw [hF] at ha; cases ha
  | some b =>
    rw [hF] at ha
    have ha : f b = some a := ha
    obtain ⟨v, st₀, t, T', L, h0, X', hL, e1, e2, ⟨hv, hP1, hz, hk⟩, hgo⟩ := hr b hF H locs ls hP hS hl.1 T hT X
    rw [h0] at hz hk
    have hv : v = (em' b).1 := by injection hv
    rw [hv] at hgo
    have up : ∀ q : Nat, zAA w H.size q → zAA w E.1.2.2.2.2.1.heap.size q := fun q h => by
      rcases h with h | h
      · exact Or.inl h
      · exact Or.inr (Nat.le_trans hS.1 h)
    obtain ⟨t2, a1, b1⟩ := k b hF a ha T'.heap (locs ++ L) ls (by rw [e1]; exact hP1)
      ⟨Nat.le_trans hS.1 (by rw [e1]; exact hz), fun q h1 h2 => by rw [e1, hk q (Nat.lt_of_lt_of_le h1 hS.1) (fun z => h2 (up q z))]; exact hS.2.1 q h1 h2, fun q hq => by
        rcases List.mem_append.mp hq with h | h
        · exact hS.2.2 q h
        · exact up _ (hL q h)⟩ hl T' rfl X'
    exact ⟨t2, hgo t2 a1, b1⟩
theorem r_cI {F : Option Int32} {f : Int32 → Option α} {st0 rest : List Value} (hr : zCR E w (eI S) S pc st0 rest F) (k : ∀ b : Int32, Xo E w em S (pc + 3) lv (.int b :: rest) (f b)) : Xo E w em S pc lv st0 (F.bind f) := r_call hr (fun b _ => k b)
theorem r_cIw {F : Option (Int32 × zSt)} {f : Int32 → zSt → Option α} {st0 rest : List Value} (hr : zCR E w eIw S pc st0 rest F) (k : ∀ (b : Int32) (S' : zSt), Xo E w em S' (pc + 3) lv (.int b :: rest) (f b S')) : Xo E w em S pc lv st0 (b2 F f) := r_call hr (fun b _ => k b.1 b.2)
theorem r_cL {F : Option Int64} {f : Int64 → Option α} {st0 rest : List Value} (hr : zCR E w (eL S) S pc st0 rest F) (k : ∀ b : Int64, Xo E w em S (pc + 3) lv (.long b :: rest) (f b)) : Xo E w em S pc lv st0 (F.bind f) := r_call hr (fun b _ => k b)
theorem r_cLw {F : Option (Int64 × zSt)} {f : Int64 → zSt → Option α} {st0 rest : List Value} (hr : zCR E w eLw S pc st0 rest F) (k : ∀ (b : Int64) (S' : zSt), Xo E w em S' (pc + 3) lv (.long b :: rest) (f b S')) : Xo E w em S pc lv st0 (b2 F f) := r_call hr (fun b _ => k b.1 b.2)
theorem r_cVw {F : Option zSt} {f : zSt → Option α} {st0 rest : List Value} (hr : zCR E w eVw S pc st0 rest F) (k : ∀ (S' : zSt), Xo E w em S' (pc + 3) lv rest (f S')) : Xo E w em S pc lv st0 (F.bind f) := r_call hr (fun b _ => k b)
end ZR
theorem zmet_of {β : Type} {l : Launch} {D : va_G} {w : zWl} {tys : zTy} {y : MethodName} {ws ws' : List Cond} {cc : ByteArray} {nL : Nat} {rt : Option FieldType} {rm : Room} {em : β → zOut} {S : zSt} {as : List Value} {o : Option β} (hy : plainName y.cls = true) (hw : ws = Cond.code y cc nL rt :: ws') (hz : zin w) (hlen : (lg_sl as).length ≤ nL) {lv : List (Nat × Value)} (hlv : lv_args 0 as = lv) (body : ∀ E : zCx, E.1.2.1 = l → E.2.1 = D → E.2.2 = nL → zGood E w tys cc y.cls ws rt rm → Xo E w em S 0 lv [] o) {b : β} (ho : o = some b) : zMet l D w tys y ws rm S as (em b) := by
  intro sz
  refine Met.ofW (cc := cc) (maxL := nL) (ret := rt) hy hw ?_
  intro p e s m args below meth c s₁ Bd hml hv
  obtain ⟨rfl, hsz, hP, hK, hN⟩ := hv
  subst hsz
  subst hlv
  rw [lg_entry_eq]
  exact body ((p, l, e, rm, s, m, as.toArray, below, meth, c), D, nL) rfl rfl rfl ⟨⟨Bd.exec, Bd.bytes, hml, findClass_of_methodNamed Bd.named, atoms_spec (ws := ws) Bd.pre⟩, hK, hz, Bd.notSynchronized, Bd.returns, rfl, hN⟩ b ho s.heap [] _ hP va_S.rf (lv_entry as hlen)
