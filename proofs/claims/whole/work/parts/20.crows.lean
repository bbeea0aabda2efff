theorem zAOspec {args : Array Value} {first s : State} {o : Option Outcome} {idx : List Nat} {t : FieldType} (h : (Cond.arrayOver (.array t)).holds args first o s idx = true) :
    ∃ comp c k, s.vm.findClass (FieldType.array t).toString = some comp ∧ (s.vm.classes.findIdx? fun x => match x.kind with | .array component _ => component == comp | _ => false) = some c ∧ s.vm.classes[c]? = some k ∧ k.kind = .array comp (.array t) ∧ s.vm.findClass ("[" ++ (FieldType.array t).toString) = some c := by
  simp only [Cond.holds, Cond.value, beq_iff_eq] at h
  cases hc : s.vm.findClass (FieldType.array t).toString with
  | none => simp [hc] at h
  | some comp =>
    simp only [hc, Option.bind_some, Option.bind_eq_some_iff, Option.map_eq_some_iff] at h
    obtain ⟨c, hi, k, hk, hb⟩ := h
    obtain ⟨hlt, hp, -⟩ := Array.findIdx?_eq_some_iff_getElem.mp hi
    have hkk : s.vm.classes[c] = k := (Array.getElem?_eq_some_iff.mp hk).2
    rw [hkk] at hp
    cases hkind : k.kind with
    | array component ty =>
      rw [hkind] at hb hp
      simp at hb hp
      exact ⟨comp, c, k, rfl, hi, hk, by rw [hkind, hp, hb.1], hb.2⟩
    | _ => rw [hkind] at hb; simp at hb
theorem va_AOA.moved {t : FieldType} {u U : State} (hvm : u.vm.Alike U.vm) (h : va_AOA t u) : va_AOA t U := by
  obtain ⟨comp, c, k, h1, h2, h3, h4, h5⟩ := zAOspec h
  obtain ⟨k', hk', he⟩ := hvm.2.2 _ _ h3
  have hi : (U.vm.classes.findIdx? fun (x : Class) => match x.kind with | .array component _ => component == comp | _ => false) = some c := by
    have hb : U.vm.bare = u.vm.bare := by first | exact hvm.bare_eq | exact hvm.bare_eq.symm
    refine (va_idx_bare U.vm comp).symm.trans ?_
    rw [hb]
    exact (va_idx_bare u.vm comp).trans h2
  have hkind : k'.kind = .array comp (.array t) := by rw [he]; exact h4
  have f1 : U.vm.findClass (FieldType.array t).toString = some comp := by rw [hvm.findClass]; exact h1
  have f2 : U.vm.findClass ("[" ++ (FieldType.array t).toString) = some c := by rw [hvm.findClass]; exact h5
  unfold va_AOA Cond.before Cond.holds
  simp only [Cond.value]
  rw [f1, Option.bind_some]
  refine (congrArg (fun o : Option Nat => (o.bind (fun c => (U.vm.classes[c]?).map fun (k : Class) => match k.kind with | .array _ ty => decide (ty = FieldType.array t) && decide (U.vm.findClass ("[" ++ (FieldType.array t).toString) = some c) | _ => false) == some true)) hi).trans ?_
  simp [hk', hkind, f2]
def zN8 (U : State) : Prop := va_Nw (.methodLinkNest RX10 9 yX8_init RX10) U ∧ va_Nw (.methodLinkNest RX10 18 yX6_init RX10) U ∧ va_Nw (.methodLinkNest RX10 25 yX3_init RX10) U ∧ va_Nw (.methodLinkNest RX10 32 yX7_init RX10) U ∧ va_Nw (.methodLinkNest RX10 39 yX1_init RX10) U ∧ va_Nw (.methodLinkNest RX10 46 yX9_init RX10) U ∧ va_Nw (.methodLinkNest RX10 53 yX0_init RX10) U ∧ va_Nw (.methodLinkNest RX10 60 yX4_init RX10) U
theorem zN8.warm {s U : State} (hW : s.WarmedH U.vm) (h : zN8 s) : zN8 U := ⟨va_Nw.warmM hW h.1, va_Nw.warmM hW h.2.1, va_Nw.warmM hW h.2.2.1, va_Nw.warmM hW h.2.2.2.1, va_Nw.warmM hW h.2.2.2.2.1, va_Nw.warmM hW h.2.2.2.2.2.1, va_Nw.warmM hW h.2.2.2.2.2.2.1, va_Nw.warmM hW h.2.2.2.2.2.2.2⟩
theorem zN8.same {s U : State} (e : s.vm = U.vm) (h : zN8 s) : zN8 U := ⟨va_Nw.same rfl e h.1, va_Nw.same rfl e h.2.1, va_Nw.same rfl e h.2.2.1, va_Nw.same rfl e h.2.2.2.1, va_Nw.same rfl e h.2.2.2.2.1, va_Nw.same rfl e h.2.2.2.2.2.1, va_Nw.same rfl e h.2.2.2.2.2.2.1, va_Nw.same rfl e h.2.2.2.2.2.2.2⟩
def cGood (E : zCx) (A : Nat → Prop) (tys : zTy) (cc : ByteArray) (own : String) (Ts : List Cond) (rm : Room) : Prop :=
  CallFix E.1.1 E.1.2.2.2.2.2.1 E.1.2.2.2.2.2.2.2.2.2 cc E.2.2 E.1.2.2.2.2.1 E.1.2.2.2.2.2.2.1 Ts own ∧ va_K E.2.1 vwCl tys E.1.2.2.2.2.1 ∧ (∀ q, E.1.2.2.2.2.1.heap.size ≤ q → A q) ∧ E.1.2.2.2.1 = rm ∧ va_AOA .int E.1.2.2.2.2.1 ∧ zN8 E.1.2.2.2.2.1
def cInit (E : zCx) : Prop := E.1.2.2.2.2.2.2.2.2.1.locks = false ∧ E.1.2.2.2.2.2.2.2.2.1.sig.returnType = none ∧ E.1.2.2.2.2.2.2.2.2.1.name = "<init>"
def cJ (E : zCx) (A : Nat → Prop) (Q : State → Prop) (ws : va_W) (cells slots pc : Nat) (lv : List (Nat × Value)) (st : List Value) : Prop :=
  ∀ (H : Heap) (locs : List Loc) (ls : Array Slot), va_P E.2.1 vwCl ws H → va_D A ws → va_S A E.1.2.2.2.2.1.heap H locs → lv_has ls E.2.2 lv → W E.1.1 E.1.2.1 E.1.2.2.1 E.1.2.2.2.1 E.1.2.2.2.2.1 E.1.2.2.2.2.2.1 E.1.2.2.2.2.2.2.1 E.1.2.2.2.2.2.2.2.1 E.1.2.2.2.2.2.2.2.2.1 E.1.2.2.2.2.2.2.2.2.2 H locs cells slots Q (F0 E.1.2.2.2.2.2.1 pc ls st)
section CR
variable {E : zCx} {A : Nat → Prop} {tys : zTy} {cc : ByteArray} {own : String} {Ts : List Cond} {rm : Room} {Q : State → Prop} {ws rest : va_W} {cells slots pc : Nat} {lv : List (Nat × Value)} {st : List Value}
theorem c_iconst (B : cGood E A tys cc own Ts rm) {n : Int} (v : Int32) (hd : decode cc pc = .ok (.iconst n, 1)) (hv : Int32.ofInt n = v) (k : cJ E A Q ws cells slots (pc + 1) lv (.int v :: st)) : cJ E A Q ws cells slots pc lv st := fun H locs ls hP hD hS hl => lv_iconst B.1.1 B.1.2.1 hd hv (k H locs ls hP hD hS hl)
theorem c_bipush (B : cGood E A tys cc own Ts rm) {n : Int} (v : Int32) (hd : decode cc pc = .ok (.bipush n, 2)) (hv : (Int8.ofInt n).toInt32 = v) (k : cJ E A Q ws cells slots (pc + 2) lv (.int v :: st)) : cJ E A Q ws cells slots pc lv st := fun H locs ls hP hD hS hl => lv_bipush B.1.1 B.1.2.1 hd hv (k H locs ls hP hD hS hl)
theorem c_sipush (B : cGood E A tys cc own Ts rm) {n : Int} (v : Int32) (hd : decode cc pc = .ok (.sipush n, 3)) (hv : (Int16.ofInt n).toInt32 = v) (k : cJ E A Q ws cells slots (pc + 3) lv (.int v :: st)) : cJ E A Q ws cells slots pc lv st := fun H locs ls hP hD hS hl => lv_sipush B.1.1 B.1.2.1 hd hv (k H locs ls hP hD hS hl)
theorem c_lconst (B : cGood E A tys cc own Ts rm) {n : Fin 2} (v : Int64) (hd : decode cc pc = .ok (.lconst n, 1)) (hv : Int64.ofNat (n : Nat) = v) (k : cJ E A Q ws cells slots (pc + 1) lv (.long v :: st)) : cJ E A Q ws cells slots pc lv st := fun H locs ls hP hD hS hl => lv_lconst B.1.1 B.1.2.1 hd hv (k H locs ls hP hD hS hl)
theorem c_aload_n (B : cGood E A tys cc own Ts rm) {j : Fin 4} {i x : Nat} (q : Nat) (hd : decode cc pc = .ok (.aload_n j, 1)) (hi : (j : Nat) = i) (hq : lv[q]? = some (i, .ref x)) (k : cJ E A Q ws cells slots (pc + 1) lv (.ref x :: st)) : cJ E A Q ws cells slots pc lv st := fun H locs ls hP hD hS hl => lv_aload_n B.1.1 B.1.2.1 hd hi (lv_at hl q hq) (k H locs ls hP hD hS hl)
theorem c_iload_n (B : cGood E A tys cc own Ts rm) {j : Fin 4} {i : Nat} {x : Int32} (q : Nat) (hd : decode cc pc = .ok (.iload_n j, 1)) (hi : (j : Nat) = i) (hq : lv[q]? = some (i, .int x)) (k : cJ E A Q ws cells slots (pc + 1) lv (.int x :: st)) : cJ E A Q ws cells slots pc lv st := fun H locs ls hP hD hS hl => lv_iload_n B.1.1 B.1.2.1 hd hi (lv_at hl q hq) (k H locs ls hP hD hS hl)
theorem c_dup (B : cGood E A tys cc own Ts rm) {v : Value} (hc : v.category = 1) (hd : decode cc pc = .ok (.dup, 1)) (k : cJ E A Q ws cells slots (pc + 1) lv (v :: v :: st)) : cJ E A Q ws cells slots pc lv (v :: st) := fun H locs ls hP hD hS hl => lv_dup B.1.1 B.1.2.1 hd hc (k H locs ls hP hD hS hl)
theorem c_sub {lv' : List (Nat × Value)} (ks : List Nat) (hl : lv_pick lv ks = lv') (k : cJ E A Q ws cells slots pc lv' st) : cJ E A Q ws cells slots pc lv st := fun H locs ls hP hD hS h => k H locs ls hP hD hS (lv_sub h ks hl)
theorem c_istore_n (B : cGood E A tys cc own Ts rm) {j : Fin 4} {i : Nat} {x : Int32} {lv' : List (Nat × Value)} (hd : decode cc pc = .ok (.istore_n j, 1)) (hi : (j : Nat) = i) (hn : i < E.2.2) (hl' : (i, Value.int x) :: lv.filter (fun q => !(q.1 == i) && !(q.1 + 1 == i && q.2.category == 2)) = lv') (k : cJ E A Q ws cells slots (pc + 1) lv' st) : cJ E A Q ws cells slots pc lv (.int x :: st) := fun H locs ls hP hD hS hl => lv_istore_n B.1.1 B.1.2.1 hd hi hl hn hl' (fun ls' hl2 => k H locs ls' hP hD hS hl2)
theorem c_iinc (B : cGood E A tys cc own Ts rm) {i : Nat} {n : Int} {x : Int32} (q : Nat) (v : Int32) {lv' : List (Nat × Value)} (hd : decode cc pc = .ok (.iinc i n, 3)) (hq : lv[q]? = some (i, .int x)) (hv : x + Int32.ofInt n = v) (hn : i < E.2.2) (hl' : (i, Value.int v) :: lv.filter (fun q => !(q.1 == i) && !(q.1 + 1 == i && q.2.category == 2)) = lv') (k : cJ E A Q ws cells slots (pc + 3) lv' st) : cJ E A Q ws cells slots pc lv st := fun H locs ls hP hD hS hl => lv_iinc B.1.1 B.1.2.1 hd hl hq hv hn hl' (fun ls' hl2 => k H locs ls' hP hD hS hl2)
theorem c_astore_n (B : cGood E A tys cc own Ts rm) {j : Fin 4} {i x : Nat} {lv' : List (Nat × Value)} (hd : decode cc pc = .ok (.astore_n j, 1)) (hi : (j : Nat) = i) (hn : i < E.2.2) (hl' : (i, Value.ref x) :: lv.filter (fun q => !(q.1 == i) && !(q.1 + 1 == i && q.2.category == 2)) = lv') (k : cJ E A Q ws cells slots (pc + 1) lv' st) : cJ E A Q ws cells slots pc lv (.ref x :: st) := fun H locs ls hP hD hS hl => lv_astore_n B.1.1 B.1.2.1 hd hi hl hn hl' (fun ls' hl2 => k H locs ls' hP hD hS hl2)
theorem c_goto (B : cGood E A tys cc own Ts rm) {off : Int} (tgt : Nat) (hd : decode cc pc = .ok (.goto off, 3)) (ht : (pc : Int) + off = (tgt : Int)) (k : cJ E A Q ws cells slots tgt lv st) : cJ E A Q ws cells slots pc lv st := fun H locs ls hP hD hS hl => lv_goto B.1.1 B.1.2.1 hd ht (k H locs ls hP hD hS hl)
theorem c_icmp_ge (B : cGood E A tys cc own Ts rm) {x y : Int32} {off : Int} (tgt : Nat) (hd : decode cc pc = .ok (.if_icmp .ge off, 3)) (ht : (pc : Int) + off = (tgt : Int)) (kt : y ≤ x → cJ E A Q ws cells slots tgt lv st) (kf : ¬ y ≤ x → cJ E A Q ws cells slots (pc + 3) lv st) : cJ E A Q ws cells slots pc lv (.int y :: .int x :: st) := fun H locs ls hP hD hS hl => lv_icmp_ge B.1.1 B.1.2.1 hd ht (fun h => kt h H locs ls hP hD hS hl) (fun h => kf h H locs ls hP hD hS hl)
theorem c_objInit (B : cGood E A tys cc own Ts rm) {a idx : Nat} (m1 : Cond.methodLink own idx objectInit ∈ Ts) (m2 : Cond.instanceMethod objectInit ∈ Ts) (m3 : Cond.code objectInit ⟨#[0xb1]⟩ 1 none ∈ Ts) (hfr : 1 ≤ rm.frames) (hlo : 12 ≤ rm.locals) (hd : decode cc pc = .ok (.invokespecial idx, 3)) (k : cJ E A Q ws cells slots (pc + 3) lv []) : cJ E A Q ws cells slots pc lv [.ref a] := by
  intro H locs ls hP hD hS hl
  have hR : E.1.2.2.2.1 = rm := B.2.2.2.1
  exact W.objInit B.1.1 B.1.2.1 B.1.2.2.2.1 (B.1.2.2.2.2 _ m1) (B.1.2.2.2.2 _ m2) (B.1.2.2.2.2 _ m3) rfl (by rw [B.1.2.2.1]; exact hl.1) rfl hd (by rw [hR]; exact hfr) (by rw [hR]; show 2 * 0 + 0 + 12 ≤ _; omega) (k H locs ls hP hD hS hl)
theorem c_put (B : cGood E A tys cc own Ts rm) (ci j : Nat) {fs : List Value} {v : Value} {ty : FieldType} {C : String} {T : u_T} {N idx h0 : Nat} (ty0 : Nat → FieldType) (hty : ∀ k, k < N → parseFieldDescriptor (T k).2.2.1 = some (ty0 k)) (hnm : ∀ a, a < N → ∀ b, b < N → a ≠ b → (T a).2.1 ≠ (T b).2.1) (hcl : vwCl[ci]? = some (C, T, N)) (hin : ∀ x ∈ u_ws C T N, x ∈ Ts) (hj : j < N) (hm : Cond.fieldLink own idx (T j).1 (T j).2.1 (T j).2.2.1 ∈ Ts) (hfin : (T j).2.2.2 = false) (hds : parseFieldDescriptor (T j).2.2.1 = some ty) (hn : narrow ty v = v) (hfit : fits ty v = true) (hl' : j < fs.length) (hd : decode cc pc = .ok (.putfield idx, 3)) (k : cJ E A Q ((h0, .inr (ci, fs.set j v)) :: rest) cells slots (pc + 3) lv st) : cJ E A Q ((h0, .inr (ci, fs)) :: rest) cells slots pc lv (v :: .ref h0 :: st) := fun H locs ls hP hD hS hl => va_put B.1.1 B.1.2.1 B.1.2.2.2.2 hin ty0 hty hnm B.1.2.2.2.1 B.2.1 hP hD hS 0 rfl hcl j hj (B.1.2.2.2.2 _ hm) (fun _ h9 => h9) hfin hds hn hfit hl' hd (fun H1 locs1 hP1 hD1 hS1 => k H1 locs1 ls hP1 hD1 hS1 hl)
theorem c_putF (B : cGood E A tys cc own Ts rm) (hi0 : cInit E) (ci j : Nat) {fs : List Value} {v : Value} {ty : FieldType} {C : String} {T : u_T} {N idx h0 : Nat} (ty0 : Nat → FieldType) (hty : ∀ k, k < N → parseFieldDescriptor (T k).2.2.1 = some (ty0 k)) (hnm : ∀ a, a < N → ∀ b, b < N → a ≠ b → (T a).2.1 ≠ (T b).2.1) (hcl : vwCl[ci]? = some (C, T, N)) (hin : ∀ x ∈ u_ws C T N, x ∈ Ts) (hj : j < N) (hm : Cond.fieldLink own idx (T j).1 (T j).2.1 (T j).2.2.1 ∈ Ts) (hfin : (T j).2.2.2 = true) (hdecl : (T j).1 = own) (hds : parseFieldDescriptor (T j).2.2.1 = some ty) (hn : narrow ty v = v) (hfit : fits ty v = true) (hl' : j < fs.length) (hd : decode cc pc = .ok (.putfield idx, 3)) (k : cJ E A Q ((h0, .inr (ci, fs.set j v)) :: rest) cells slots (pc + 3) lv st) : cJ E A Q ((h0, .inr (ci, fs)) :: rest) cells slots pc lv (v :: .ref h0 :: st) := fun H locs ls hP hD hS hl => va_putF B.1.1 B.1.2.1 B.1.2.2.2.2 hin ty0 hty hnm B.1.2.2.2.1 B.2.1 hP hD hS 0 rfl hcl j hj (B.1.2.2.2.2 _ hm) (fun _ h9 => h9) hfin hi0.2.2 hdecl hds hn hfit hl' hd (fun H1 locs1 hP1 hD1 hS1 => k H1 locs1 ls hP1 hD1 hS1 hl)
theorem c_get (B : cGood E A tys cc own Ts rm) (ci j : Nat) {fs : List Value} {v : Value} {C : String} {T : u_T} {N idx h0 : Nat} (hcl : vwCl[ci]? = some (C, T, N)) (hin : ∀ x ∈ u_ws C T N, x ∈ Ts) (hj : j < N) (hm : Cond.fieldLink own idx (T j).1 (T j).2.1 (T j).2.2.1 ∈ Ts) (hv : fs[j]? = some v) (hd : decode cc pc = .ok (.getfield idx, 3)) (k : cJ E A Q ((h0, .inr (ci, fs)) :: rest) cells slots (pc + 3) lv (v :: st)) : cJ E A Q ((h0, .inr (ci, fs)) :: rest) cells slots pc lv (.ref h0 :: st) := fun H locs ls hP hD hS hl => va_get B.1.1 B.1.2.1 B.1.2.2.2.2 hin B.1.2.2.2.1 B.2.1 hP 0 rfl hcl j hj (B.1.2.2.2.2 _ hm) (fun _ h9 => h9) hv hd (k H locs ls hP hD hS hl)
theorem c_iast (B : cGood E A tys cc own Ts rm) (q0 t0 : Nat) {ws' : va_W} {a n : Nat} {cA : ClassId} {i x : Int32} {f : Nat → Int32} (ha : ws[q0]? = some (a, .inl (cA, n, .inl f))) (ht : tys[t0]? = some (cA, .int)) (hin : vp_in i n) (hws : ws.set q0 (a, .inl (cA, n, .inl (upd f i.toNatClampNeg x))) = ws') (hd : decode cc pc = .ok (.iastore, 1)) (k : cJ E A Q ws' cells slots (pc + 1) lv st) : cJ E A Q ws cells slots pc lv (.int x :: .int i :: .ref a :: st) := by
  intro H locs ls hP hD hS hl
  subst hws
  exact va_iast B.1.1 B.1.2.1 B.2.1 hP hD hS q0 t0 ha ht hin hd (fun H1 locs1 hP1 hD1 hS1 => k H1 locs1 ls hP1 hD1 hS1 hl)
theorem zRA {s : State} {D : va_G} {tys : zTy} {cA cB : ClassId} {ty : FieldType} (hne : ∀ C, ty ≠ .object C) (hK : va_K D vwCl (tys ++ [(cB, ty)]) s) (t0 : Nat) (ht : tys[t0]? = some (cA, ty)) : cB = cA := by
  have h1 := (hK.2 t0 (cA, ty) (by rw [List.getElem?_append_left (List.getElem?_eq_some_iff.mp ht).1]; exact ht)).2
  have h2 := (hK.2 tys.length (cB, ty) (by simp)).2
  cases ty with
  | object C => exact absurd rfl (hne C)
  | _ => exact Option.some.inj (h2.symm.trans h1)
theorem c_newI (B : cGood E A tys cc own Ts rm) (t0 n : Nat) {cA : ClassId} {v : Int32} (ht : tys[t0]? = some (cA, .int)) (m1 : Cond.arrayClass .int ∈ Ts) (hn : ¬ v < 0) (hN : v.toNatClampNeg = n) (hb : n * componentBytes .int ≤ 536870912) (hc : cells + 1 ≤ rm.cells) (hs : slots + n ≤ rm.slots) (hd : decode cc pc = .ok (.newarray .int, 2)) (k : ∀ q : Nat, cJ E A Q (ws ++ [(q, .inl (cA, n, .inl (fun _ => 0)))]) (cells + 1) (slots + n) (pc + 2) lv (.ref q :: st)) : cJ E A Q ws cells slots pc lv (.int v :: st) := by
  intro H locs ls hP hD hS hl
  have hR : E.1.2.2.2.1 = rm := B.2.2.2.1
  refine va_newa (atype := .int) (ty := .int) (a0 := (n, .inl (fun _ => 0))) B.1.1 B.1.2.1 (B.1.2.2.2.2 _ m1) rfl B.2.1 hP hD hS B.2.2.1 (fun _ => rfl) hn hN hb (by rw [hR]; exact hc) (by rw [hR]; exact hs) hd (fun q cB H1 hK hP1 hD1 hS1 => ?_)
  have e := zRA (fun _ h => by cases h) hK t0 ht
  subst e
  exact k q H1 locs ls hP1 hD1 hS1 hl
theorem c_newZ (B : cGood E A tys cc own Ts rm) (t0 n : Nat) {cA : ClassId} {v : Int32} (ht : tys[t0]? = some (cA, .boolean)) (m1 : Cond.arrayClass .boolean ∈ Ts) (hn : ¬ v < 0) (hN : v.toNatClampNeg = n) (hb : n * componentBytes .boolean ≤ 536870912) (hc : cells + 1 ≤ rm.cells) (hs : slots + n ≤ rm.slots) (hd : decode cc pc = .ok (.newarray .boolean, 2)) (k : ∀ q : Nat, cJ E A Q (ws ++ [(q, .inl (cA, n, .inl (fun _ => 0)))]) (cells + 1) (slots + n) (pc + 2) lv (.ref q :: st)) : cJ E A Q ws cells slots pc lv (.int v :: st) := by
  intro H locs ls hP hD hS hl
  have hR : E.1.2.2.2.1 = rm := B.2.2.2.1
  refine va_newa (atype := .boolean) (ty := .boolean) (a0 := (n, .inl (fun _ => 0))) B.1.1 B.1.2.1 (B.1.2.2.2.2 _ m1) rfl B.2.1 hP hD hS B.2.2.1 (fun _ => rfl) hn hN hb (by rw [hR]; exact hc) (by rw [hR]; exact hs) hd (fun q cB H1 hK hP1 hD1 hS1 => ?_)
  have e := zRA (fun _ h => by cases h) hK t0 ht
  subst e
  exact k q H1 locs ls hP1 hD1 hS1 hl
theorem c_newJ (B : cGood E A tys cc own Ts rm) (t0 n : Nat) {cA : ClassId} {v : Int32} (ht : tys[t0]? = some (cA, .long)) (m1 : Cond.arrayClass .long ∈ Ts) (hn : ¬ v < 0) (hN : v.toNatClampNeg = n) (hb : n * componentBytes .long ≤ 536870912) (hc : cells + 1 ≤ rm.cells) (hs : slots + n ≤ rm.slots) (hd : decode cc pc = .ok (.newarray .long, 2)) (k : ∀ q : Nat, cJ E A Q (ws ++ [(q, .inl (cA, n, .inr (.inl (fun _ => 0))))]) (cells + 1) (slots + n) (pc + 2) lv (.ref q :: st)) : cJ E A Q ws cells slots pc lv (.int v :: st) := by
  intro H locs ls hP hD hS hl
  have hR : E.1.2.2.2.1 = rm := B.2.2.2.1
  refine va_newa (atype := .long) (ty := .long) (a0 := (n, .inr (.inl (fun _ => 0)))) B.1.1 B.1.2.1 (B.1.2.2.2.2 _ m1) rfl B.2.1 hP hD hS B.2.2.1 (fun _ => rfl) hn hN hb (by rw [hR]; exact hc) (by rw [hR]; exact hs) hd (fun q cB H1 hK hP1 hD1 hS1 => ?_)
  have e := zRA (fun _ h => by cases h) hK t0 ht
  subst e
  exact k q H1 locs ls hP1 hD1 hS1 hl
theorem c_mna (B : cGood E A tys cc own Ts rm) (n kk : Nat) {cO cI : ClassId} {idx : Nat} {v u : Int32} (ht0 : tys[0]? = some (cI, .int)) (ht2 : tys[2]? = some (cO, .array .int)) (m1 : Cond.arrayClass .int ∈ Ts) (m2 : Cond.classLink own idx "[[I" ∈ Ts) (hn : ¬ v < 0) (hu : ¬ u < 0) (hN : v.toNatClampNeg = n) (hU : u.toNatClampNeg = kk) (hb1 : n * 4 ≤ 536870912) (hb2 : kk * 4 ≤ 536870912) (hb3 : kk ≤ 536870912) (hc : cells + (1 + n) ≤ rm.cells) (hs : slots + (n + n * kk) ≤ rm.slots) (hd : decode cc pc = .ok (.multianewarray idx 2, 4)) (k : ∀ (q : Nat) (r : Nat → Nat), cJ E A Q (ws ++ ((q, .inl (cO, n, .inr (.inr (.inr (.inr (fun z => some (r z))))))) :: (List.range n).map (fun i => (r i, .inl (cI, kk, .inl (fun _ => 0)))))) (cells + 1 + n) (slots + n + n * kk) (pc + 4) lv (.ref q :: st)) : cJ E A Q ws cells slots pc lv (.int u :: .int v :: st) := by
  intro H locs ls hP hD hS hl
  have hR : E.1.2.2.2.1 = rm := B.2.2.2.1
  have hI := (B.2.1.2 0 _ ht0).2
  have hP0 : va_P E.2.1 vwCl (ws ++ va_pl [] (fun _ => .inr (0, []))) H := by
    have e : ws ++ va_pl [] (fun _ => .inr (0, [])) = ws := List.append_nil ws
    rw [e]; exact hP
  have hD0 : va_D A (ws ++ va_pl [] (fun _ => .inr (0, []))) := by
    have e : ws ++ va_pl [] (fun _ => .inr (0, [])) = ws := List.append_nil ws
    rw [e]; exact hD
  refine va_mna (ty := .int) (cy := cI) (z := (kk, .inl (fun _ => 0))) B.1.1 B.1.2.1 B.1.2.2.2.1 (B.1.2.2.2.2 _ m2) B.2.2.2.2.1 (B.1.2.2.2.2 _ m1) hI B.2.1 hP0 hD0 hS B.2.2.1 hn hu hN hU hb1 hb2 hb3 rfl rfl (by rw [hR]; exact hc) (by rw [hR]; exact hs) (fun c9 => ?_) hd (fun q r cB H1 hinj hnl hK hP1 hD1 hS1 => ?_)
  · show ({ cls := c9, slots := Array.replicate kk _, vm := .none } : Cell) = _
    rw [arrV_new]
    rfl
  have e := zRA (fun _ h => by cases h) hK 2 ht2
  subst e
  have e1 : va_pl ([] ++ (List.range n).map r) (vr_up (fun _ => .inr (0, [])) ((List.range n).map r) (.inl (cI, (kk, .inl (fun _ => 0))))) = (List.range n).map (fun i => (r i, (.inl (cI, kk, .inl (fun _ => 0)) : va_E))) := by
    unfold va_pl
    rw [List.nil_append, List.map_map]
    apply List.map_congr_left
    intro i hi
    show (r i, vr_up _ _ _ (r i)) = _
    rw [vr_up_in (List.mem_map.mpr ⟨i, hi, rfl⟩)]
  rw [e1] at hP1 hD1
  have e2 : ∀ H9 : Heap, va_P E.2.1 vwCl (ws ++ [(q, .inl (cB, n, .inr (.inr (.inr (.inr (fun i => if i < n then some (r i) else none))))))] ++ (List.range n).map (fun i => (r i, (.inl (cI, kk, .inl (fun _ => 0)) : va_E)))) H9 → va_P E.2.1 vwCl (ws ++ ((q, .inl (cB, n, .inr (.inr (.inr (.inr (fun z => some (r z))))))) :: (List.range n).map (fun i => (r i, (.inl (cI, kk, .inl (fun _ => 0)) : va_E))))) H9 := by
    intro H9 h9
    have hl9 := zPl (zPl h9)
    have hm9 := zPr (zPl h9)
    have hr9 := zPr h9
    refine hl9.app (va_P.app (w1 := [_]) ?_ hr9)
    intro k9 x hx
    have h0 : k9 < 1 := (List.getElem?_eq_some_iff.mp hx).1
    rw [show k9 = 0 by omega] at hx
    cases hx
    have := hm9 0 _ rfl
    refine Eq.trans this (congrArg some ?_)
    rw [vp_cell_q, vp_cell_q]
    show ({ cls := cB, slots := Array.ofFn (n := n) _, vm := .none } : Cell) = { cls := cB, slots := Array.ofFn (n := n) _, vm := .none }
    congr 2
    funext j
    simp [j.isLt]
  have e3 : va_D A (ws ++ ((q, .inl (cB, n, .inr (.inr (.inr (.inr (fun z => some (r z))))))) :: (List.range n).map (fun i => (r i, (.inl (cI, kk, .inl (fun _ => 0)) : va_E))))) := by
    have e4 : ∀ (k9 : Nat) (x : Nat × va_E), (ws ++ ((q, .inl (cB, n, .inr (.inr (.inr (.inr (fun z => some (r z))))))) :: (List.range n).map (fun i => (r i, (.inl (cI, kk, .inl (fun _ => 0)) : va_E)))))[k9]? = some x → ∃ y, (ws ++ [(q, .inl (cB, n, .inr (.inr (.inr (.inr (fun i => if i < n then some (r i) else none))))))] ++ (List.range n).map (fun i => (r i, (.inl (cI, kk, .inl (fun _ => 0)) : va_E))))[k9]? = some y ∧ y.1 = x.1 := by
      intro k9 x hx
      rw [List.append_assoc]
      by_cases h1 : k9 < ws.length
      · rw [List.getElem?_append_left h1] at hx
        exact ⟨x, by rw [List.getElem?_append_left h1]; exact hx, rfl⟩
      · rw [List.getElem?_append_right (by omega)] at hx
        rw [List.getElem?_append_right (by omega)]
        generalize k9 - ws.length = k8 at hx ⊢
        cases k8 with
        | zero => cases hx; exact ⟨_, rfl, rfl⟩
        | succ k7 => exact ⟨x, hx, rfl⟩
    refine ⟨fun i j x y hi hj hxy => ?_, fun k9 x hx => ?_⟩
    · obtain ⟨x', hx1, hx2⟩ := e4 i x hi
      obtain ⟨y', hy1, hy2⟩ := e4 j y hj
      exact hD1.1 i j x' y' hx1 hy1 (hx2.trans (hxy.trans hy2.symm))
    · obtain ⟨x', hx1, hx2⟩ := e4 k9 x hx
      rw [← hx2]; exact hD1.2 k9 x' hx1
  exact k q r H1 locs ls (e2 _ hP1) e3 hS1 hl
theorem c_new (B : cGood E A tys cc own Ts rm) (ci N : Nat) {C : String} {T : u_T} {idx : Nat} {fs : List Value} (ty : Nat → FieldType) (hty : ∀ k, k < N → parseFieldDescriptor (T k).2.2.1 = some (ty k)) (hcl : vwCl[ci]? = some (C, T, N)) (hin : ∀ x ∈ u_ws C T N, x ∈ Ts) (m1 : Cond.classLink own idx C ∈ Ts) (m2 : Cond.instantiable C N ∈ Ts) (m3 : Cond.initialized C ∈ Ts) (hfs : ∀ j, j < N → defaultValue (ty j) = vp_V fs j) (hc : cells + 1 ≤ rm.cells) (hs : slots + N ≤ rm.slots) (hd : decode cc pc = .ok (.new idx, 3)) (k : ∀ q : Nat, cJ E A Q (ws ++ [(q, .inr (ci, fs))]) (cells + 1) (slots + N) (pc + 3) lv (.ref q :: st)) : cJ E A Q ws cells slots pc lv st := by
  intro H locs ls hP hD hS hl
  have hR : E.1.2.2.2.1 = rm := B.2.2.2.1
  exact va_new B.1.1 B.1.2.1 B.1.2.2.2.2 hin ty hty B.1.2.2.2.1 (B.1.2.2.2.2 _ m1) (B.1.2.2.2.2 _ m2) (B.1.2.2.2.2 _ m3) B.2.1 hP hD hS B.2.2.1 hcl hfs (by rw [hR]; exact hc) (by rw [hR]; exact hs) hd (fun q H1 hP1 hD1 hS1 => k q H1 locs ls hP1 hD1 hS1 hl)
theorem c_widen {k n : Nat} (h1 : cells ≤ k) (h2 : slots ≤ n) (kk : cJ E A Q ws k n pc lv st) : cJ E A Q ws cells slots pc lv st := fun H locs ls hP hD hS hl => W.widen h1 h2 (kk H locs ls hP hD hS hl)
abbrev cU : Type := (Nat → Nat) × (Nat → Nat)
def cP (D : va_G) (tys : zTy) (q : Nat) (e0 : va_E) (sz : Nat) : Array Value → State → Prop := va_Pc [.ref q] (fun U => U.heap.size = sz ∧ va_P D vwCl [(q, e0)] U.heap ∧ va_K D vwCl tys U ∧ va_D (fun _ => True) [(q, e0)] ∧ va_AOA .int U ∧ zN8 U)
def cQ {τ : Type} (D : va_G) (sh : Nat → τ → va_W) (q : Nat) (e0 : va_E) (sz : Nat) : Array Value → State → Outcome → State → Prop := va_Qv (fun _ : τ => True) (fun u t => va_P D vwCl (sh q u) t.heap ∧ va_D (va_A [(q, e0)] sz) (sh q u)) (va_A [(q, e0)] sz)
def cMet {τ : Type} (l : Launch) (D : va_G) (tys : zTy) (y : MethodName) (ws : List Cond) (rm : Room) (e0 : va_E) (sh : Nat → τ → va_W) (mc ms : Nat) : Prop := ∀ q sz, Met l y ws rm (cP D tys q e0 sz) (cQ D sh q e0 sz) mc ms (va_A [(q, e0)] sz)
theorem c_vret (B : cGood E A tys cc own Ts rm) (hi0 : cInit E) {τ : Type} {D : va_G} (hD0 : E.2.1 = D) {sh : Nat → τ → va_W} {q sz : Nat} {e0 : va_E} {mc ms : Nat} (u : τ) (hA : va_A [(q, e0)] sz = A) (hsz : E.1.2.2.2.2.1.heap.size = sz) (hws : ws = sh q u) (h1 : cells ≤ mc) (h2 : slots ≤ ms) (hd : decode cc pc = .ok (.return_, 1)) : cJ E A (MQ E.1.2.2.2.2.2.2.2.1 (cQ D sh q e0 sz) E.1.2.2.2.2.2.2.1 E.1.2.2.2.2.1 mc ms A) ws cells slots pc lv [] := by
  intro H locs ls hP hD hS hl
  subst hD0
  subst hws
  subst hsz
  subst hA
  refine W.widen h1 h2 ?_
  exact W.vret B.1.1 B.1.2.1 hi0.2.1 (fun t ht hW => ⟨⟨u, rfl, trivial, by rw [ht]; exact hP, hD⟩, hS.F ht⟩) hS.2.2 hd hi0.1
theorem c_join {A0 : Nat → Prop} {D : va_G} {ws w1 : va_W} {q : Nat} {e0 : va_E} {H H1 : Heap} (hP : va_P D vwCl (ws ++ [(q, e0)]) H) (hD : va_D A0 (ws ++ [(q, e0)])) (hk : ∀ a : Nat, a < H.size → ¬ va_A [(q, e0)] H.size a → H1[a]? = H[a]?) (hF : ∀ a, va_A [(q, e0)] H.size a → A0 a) (hP1 : va_P D vwCl w1 H1) (hD1 : va_D (va_A [(q, e0)] H.size) w1) : va_P D vwCl (ws ++ w1) H1 ∧ va_D A0 (ws ++ w1) := by
  have inl : ∀ {k : Nat} {x : Nat × va_E}, ws[k]? = some x → (ws ++ [(q, e0)])[k]? = some x := fun hx => by rw [List.getElem?_append_left (List.getElem?_eq_some_iff.mp hx).1]; exact hx
  have apart : ∀ (k : Nat) (x : Nat × va_E), ws[k]? = some x → x.1 < H.size ∧ ¬ va_A [(q, e0)] H.size x.1 := by
    intro k x hx
    have hl := (hP k x (inl hx)).lt
    refine ⟨hl, fun h => ?_⟩
    rcases h with ⟨k2, e2, h⟩ | h
    · have h0 : k2 < 1 := (List.getElem?_eq_some_iff.mp h).1
      rw [show k2 = 0 by omega] at h
      have h3 : (ws ++ [(q, e0)])[ws.length]? = some (q, e0) := by simp
      cases h
      have h4 := hD.1 k ws.length x _ (inl hx) h3 rfl
      have := (List.getElem?_eq_some_iff.mp hx).1
      omega
    · omega
  refine ⟨va_P.app (fun k x hx => (hP k x (inl hx)).kept (hk _ (apart k x hx).1 (apart k x hx).2)) hP1, va_D.app ⟨fun i j x y hi hj e => hD.1 i j x y (inl hi) (inl hj) e, fun k x hx => hD.2 k x (inl hx)⟩ (hD1.weaken (fun k x _ h => hF x.1 h)) (fun i j x y hx hy e => ?_)⟩
  exact (apart i x hx).2 (by rw [e]; exact hD1.2 j y hy)
theorem cP_blind {D : va_G} {tys : zTy} {q sz : Nat} {e0 : va_E} : FrameBlind (cP D tys q e0 sz) := fun a U g mk h => by
  obtain ⟨q0, q1, qP, qK, qD, qO, qN⟩ := h
  exact ⟨q0, q1, qP, va_K.moved (u := U) (U := U.calling g mk a) (Vm.Alike.refl U.vm) qK, qD, va_AOA.moved (u := U) (U := U.calling g mk a) (Vm.Alike.refl U.vm) qO, zN8.same (U := U.calling g mk a) rfl qN⟩
theorem c_back (B : cGood E A tys cc own Ts rm) {τ : Type} {sh : Nat → τ → va_W} {q : Nat} {e0 : va_E} {mc ms : Nat} {st0 : List Value} (hr : ∀ (H : Heap) (locs : List Loc) (ls : Array Slot), va_P E.2.1 vwCl (ws ++ [(q, e0)]) H → va_D A (ws ++ [(q, e0)]) → ls.size = E.2.2 → va_Run E.1.1 E.1.2.1 E.1.2.2.1 E.1.2.2.2.1 E.1.2.2.2.2.1 E.1.2.2.2.2.2.1 E.1.2.2.2.2.2.2.1 E.1.2.2.2.2.2.2.2.1 E.1.2.2.2.2.2.2.2.2.1 E.1.2.2.2.2.2.2.2.2.2 H locs cells slots mc ms (F0 E.1.2.2.2.2.2.1 pc ls st0) st (cQ E.2.1 sh q e0 H.size #[.ref q]) (va_A [(q, e0)] H.size)) (k : ∀ u : τ, cJ E A Q (ws ++ sh q u) (cells + mc) (slots + ms) (pc + 3) lv st) : cJ E A Q (ws ++ [(q, e0)]) cells slots pc lv st0 := by
  intro H locs ls hP hD hS hl
  have hF : ∀ a, va_A [(q, e0)] H.size a → A a := fun a h => by
    rcases h with ⟨k2, e2, h⟩ | h
    · have h0 : k2 < 1 := (List.getElem?_eq_some_iff.mp h).1
      rw [show k2 = 0 by omega] at h
      cases h
      exact hD.2 ws.length (q, e0) (by simp)
    · exact B.2.2.1 a (Nat.le_trans hS.1 h)
  refine va_callv (hr H locs ls hP hD hl.1) hS (fun a _ h => hF a h) hF (fun u t H1 locs1 ht hvm _ hB hz hk hS1 => ?_)
  obtain ⟨hP1, hD1⟩ := hB
  rw [ht] at hP1
  obtain ⟨hPn, hDn⟩ := c_join hP hD hk hF hP1 hD1
  exact k u H1 locs1 ls hPn hDn hS1 hl
theorem cPre {s : State} {D : va_G} {tys : zTy} {A : Nat → Prop} {ws : va_W} {q : Nat} {e0 : va_E} {H : Heap} (hK : va_K D vwCl tys s) (hO : va_AOA .int s) (hN : zN8 s) (hP : va_P D vwCl (ws ++ [(q, e0)]) H) : PreS s H (cP D tys q e0 H.size) [.ref q] := ⟨cP_blind, fun U hU hW => ⟨rfl, by rw [hU], by rw [hU]; exact zPr hP, va_K.moved hW.alike hK, ⟨fun i j x y hi hj _ => by
    have h1 : i < 1 := (List.getElem?_eq_some_iff.mp hi).1
    have h2 : j < 1 := (List.getElem?_eq_some_iff.mp hj).1
    omega, fun _ _ _ => trivial⟩, va_AOA.moved hW.alike hO, zN8.warm hW hN⟩⟩
theorem c_callN (B : cGood E A tys cc own Ts rm) {τ : Type} {sh : Nat → τ → va_W} {q : Nat} {e0 : va_E} {mc ms idx maxL : Nat} {y : MethodName} {ws0 ws0' : List Cond} {bytes : ByteArray} {rm' : Room} {host : String} (hM : cMet E.1.2.1 E.2.1 tys y ws0 rm' e0 sh mc ms) (hG : GoodIn Ts ws0) (hw : ws0 = Cond.code y bytes maxL none :: ws0') (hrc : rm'.cells = mc) (hrs : rm'.slots = ms) (hl1 : va_Nw (.methodLinkNest own idx y host) E.1.2.2.2.2.1) (hl2 : Cond.initialized y.cls ∈ Ts) (hl3 : Cond.instanceMethod y ∈ Ts) (hy : y.name = "<init>") (hdd : y.cls ≠ "java/lang/invoke/MethodHandle" ∧ y.cls ≠ "java/lang/invoke/VarHandle" ∧ (parseMethodDescriptor y.desc).map (fun d => d.parameters.length) = some 0) (hR : rm'.frames + 1 ≤ rm.frames ∧ 8 + (maxL + 11) + rm'.locals ≤ rm.locals) (hrest : (st.map fun v => v.category).sum ≤ 8) (hc : cells + mc ≤ rm.cells) (hs : slots + ms ≤ rm.slots) (hd : decode cc pc = .ok (.invokespecial idx, 3)) (k : ∀ u : τ, cJ E A Q (ws ++ sh q u) (cells + mc) (slots + ms) (pc + 3) lv st) : cJ E A Q (ws ++ [(q, e0)]) cells slots pc lv (.ref q :: st) := by
  have hRR : E.1.2.2.2.1 = rm := B.2.2.2.1
  refine c_back B (fun H locs ls hP hD hl => ?_) k
  exact va_runIN (As := []) (rest := st) (host := host) B.1 (hM q H.size) ⟨va_cnB 0 B.1.2.2.2.2 hG hw hrc hrs hl1 (B.1.2.2.2.2 _ hl2) hdd (by rw [hRR]; exact hR), hy, B.1.2.2.2.2 _ hl3⟩ (cPre (A := A) B.2.1 B.2.2.2.2.1 B.2.2.2.2.2 hP) rfl rfl hl rfl (lv_room hrest) hd (by rw [hRR]; exact ⟨hc, hs⟩)
theorem c_callI (B : cGood E A tys cc own Ts rm) {τ : Type} {sh : Nat → τ → va_W} {q : Nat} {e0 : va_E} {mc ms idx maxL : Nat} {y : MethodName} {ws0 ws0' : List Cond} {bytes : ByteArray} {rm' : Room} (hM : cMet E.1.2.1 E.2.1 tys y ws0 rm' e0 sh mc ms) (hG : GoodIn Ts ws0) (hw : ws0 = Cond.code y bytes maxL none :: ws0') (hrc : rm'.cells = mc) (hrs : rm'.slots = ms) (hl1 : Cond.methodLink own idx y ∈ Ts) (hl2 : Cond.initialized y.cls ∈ Ts) (hl3 : Cond.instanceMethod y ∈ Ts) (hy : y.name = "<init>") (hdd : y.cls ≠ "java/lang/invoke/MethodHandle" ∧ y.cls ≠ "java/lang/invoke/VarHandle" ∧ (parseMethodDescriptor y.desc).map (fun d => d.parameters.length) = some 0) (hR : rm'.frames + 1 ≤ rm.frames ∧ 8 + (maxL + 11) + rm'.locals ≤ rm.locals) (hrest : (st.map fun v => v.category).sum ≤ 8) (hc : cells + mc ≤ rm.cells) (hs : slots + ms ≤ rm.slots) (hd : decode cc pc = .ok (.invokespecial idx, 3)) (k : ∀ u : τ, cJ E A Q (ws ++ sh q u) (cells + mc) (slots + ms) (pc + 3) lv st) : cJ E A Q (ws ++ [(q, e0)]) cells slots pc lv (.ref q :: st) := by
  have hRR : E.1.2.2.2.1 = rm := B.2.2.2.1
  refine c_back B (fun H locs ls hP hD hl => ?_) k
  exact va_runI (As := []) (rest := st) B.1 (hM q H.size) (cwI 0 B.1.2.2.2.2 hG hw hrc hrs (B.1.2.2.2.2 _ hl2) (B.1.2.2.2.2 _ hl1) (B.1.2.2.2.2 _ hl3) hy hdd (by rw [hRR]; exact hR)) (cPre (A := A) B.2.1 B.2.2.2.2.1 B.2.2.2.2.2 hP) rfl rfl hl rfl (lv_room hrest) hd (by rw [hRR]; exact ⟨hc, hs⟩)
end CR
theorem cmet_of {l : Launch} {D : va_G} {tys : zTy} {y : MethodName} {ws ws' : List Cond} {cc : ByteArray} {nL : Nat} {rm : Room} {e0 : va_E} {τ : Type} {sh : Nat → τ → va_W} {mc ms : Nat} (hy : plainName y.cls = true) (hy2 : y.name = "<init>") (hw : ws = Cond.code y cc nL none :: ws') (hlen : 1 ≤ nL) (body : ∀ (E : zCx) (A : Nat → Prop) (q sz : Nat), E.1.2.1 = l → E.2.1 = D → E.2.2 = nL → cGood E A tys cc y.cls ws rm → cInit E → va_A [(q, e0)] sz = A → E.1.2.2.2.2.1.heap.size = sz → cJ E A (MQ E.1.2.2.2.2.2.2.2.1 (cQ D sh q e0 sz) E.1.2.2.2.2.2.2.1 E.1.2.2.2.2.1 mc ms A) [(q, e0)] 0 0 0 [(0, .ref q)] []) : cMet l D tys y ws rm e0 sh mc ms := by
  intro q sz
  refine Met.ofW (cc := cc) (maxL := nL) (ret := none) hy hw ?_
  intro p e s m args below meth c s₁ Bd hml hv
  obtain ⟨rfl, hsz, hP, hK, hD, hO, hN⟩ := hv
  subst hsz
  rw [lg_entry_eq]
  exact body ((p, l, e, rm, s, m, [Value.ref q].toArray, below, meth, c), D, nL) (va_A [(q, e0)] s.heap.size) q s.heap.size rfl rfl rfl ⟨⟨Bd.exec, Bd.bytes, hml, findClass_of_methodNamed Bd.named, atoms_spec (ws := ws) Bd.pre⟩, hK, fun _ h => Or.inr h, rfl, hO, hN⟩ ⟨Bd.notSynchronized, Bd.returns, by rw [← hy2]; exact (name_of_methodNamed Bd.named Bd.method).1⟩ rfl rfl s.heap [] _ hP hD.self va_S.rf (lv_entry [Value.ref q] hlen)
