def R_law : String := "LongestMetLaw"
def lw_P (b : Addr) (xs : List Int32) (args : Array Value) (s : State) : Prop := args = #[.ref b] ∧ s.IntsAt b xs ∧ xs.length ≤ 3072 ∧ (Jvm.Cond.and given_1 narrow_1).before args s = true
def lw_Q (_ : Array Value) (s : State) (o : Outcome) (t : State) : Prop := o = .returned (some (.int 1)) ∧ Framed s o t [] 600000 7302250
def lw_Z (below : List Frame) (a : Array Value) (s : State) : State → Prop := fun t => ∃ o, t.status = .running ∧ Ended t below o ∧ lw_Q a s o t
theorem lw_ret {p : Program} {l : Launch} {e : Env} {s : State} {m : MethodId} {below : List Frame} {meth : Method} {c : Code} {b : Nat} (hx : p.tables.exec = Jvm.exec) (hb : c.code = code) (hr : meth.sig.returnType = ret) (hlocks : meth.locks = false) {pc : Nat} {H : Heap} {ls : Array Slot} (hdg : decode code pc = .ok (.ireturn, 1)) : W p l e room_1 s m #[Value.ref b] below meth c H [] 600000 7302250 (lw_Z below #[Value.ref b] s) (F0 m pc ls [.int 1]) := by
  intro T hT X
  obtain ⟨fs, hret, hrun, hended, hW, hframe⟩ := X.leave (v := some (.int 1)) (hlocks := hlocks) (fun h => by rw [hr] at h; cases h)
  have hmeth' : T.vm.method? m = some meth := X.method'
  refine ⟨T.setFrames fs, ?_, .returned (some (.int 1)), hrun, hended, rfl, ⟨_, rfl⟩, hW, hframe⟩
  jvm_step X.here [X.here.top, hx, hb, hdg, hmeth', hr, ret, narrow_b1]
  (try refine ⟨rfl, ?_⟩); (try refine ⟨rfl, ?_⟩)
  first | (intro acts; rw [hret _ acts rfl rfl rfl]) | rw [hret _ _ rfl rfl rfl]
  exact Steps.refl _
def lw_At (p : Program) (s : State) (m : MethodId) (meth : Method) (c : Code) (b L : Nat) (xs : Nat → Int32) : Prop :=
  p.tables.exec = Jvm.exec ∧ c.code = code ∧ meth.sig.returnType = ret ∧ c.maxLocals = 4 ∧ s.vm.findClass R_law = some m.cls ∧ (∀ w ∈ lw_tbl, w.before #[Value.ref b] s = true) ∧ va_X b L xs s s.heap ∧ b < s.heap.size ∧ meth.locks = false ∧ (Jvm.Cond.and given_1 narrow_1).before #[Value.ref b] s = true

abbrev yK : Type := Program × Launch × Env × State × MethodId × List Frame × Method × Code × Nat × va_G × zGx × zGx
def yAt (K : yK) (L : Nat) (xs : Nat → Int32) : Prop :=
  CallFix K.1 K.2.2.2.2.1 K.2.2.2.2.2.2.2.1 code 4 K.2.2.2.1 #[Value.ref K.2.2.2.2.2.2.2.2.1] lw_tbl RL ∧ va_K K.2.2.2.2.2.2.2.2.2.1 vwCl (zT K.2.2.2.2.2.2.2.2.2.2.1) K.2.2.2.1 ∧ zNs K.2.2.2.1 ∧ zin (WX K.2.2.2.2.2.2.2.2.2.2.1) ∧ zin (WM K.2.2.2.2.2.2.2.2.2.2.2) ∧ (∀ i j, i < 46 → j < 20 → K.2.2.2.2.2.2.2.2.2.2.1.1 i ≠ K.2.2.2.2.2.2.2.2.2.2.2.1 j) ∧ K.2.2.2.2.2.2.2.2.2.2.2.2 = K.2.2.2.2.2.2.2.2.2.2.1.2 ∧ (∀ i, i < 46 → K.2.2.2.1.heap.size ≤ K.2.2.2.2.2.2.2.2.2.2.1.1 i) ∧ (∀ j, j < 20 → K.2.2.2.1.heap.size ≤ K.2.2.2.2.2.2.2.2.2.2.2.1 j) ∧ va_X K.2.2.2.2.2.2.2.2.1 L xs K.2.2.2.1 K.2.2.2.1.heap ∧ K.2.2.2.2.2.2.2.2.1 < K.2.2.2.1.heap.size ∧ K.2.2.2.2.2.2.1.locks = false ∧ K.2.2.2.2.2.2.1.sig.returnType = ret
def yX (K : yK) (SX SM : zSt) (pc : Nat) (lv : List (Nat × Value)) (st : List Value) : Prop :=
  ∀ (H : Heap) (locs : List Loc) (ls : Array Slot), va_P K.2.2.2.2.2.2.2.2.2.1 vwCl (zws (WX K.2.2.2.2.2.2.2.2.2.2.1) SX ++ zws (WM K.2.2.2.2.2.2.2.2.2.2.2) SM) H → va_S (fun q => K.2.2.2.1.heap.size ≤ q) K.2.2.2.1.heap H locs → lv_has ls 4 lv →
    W K.1 K.2.1 K.2.2.1 room_1 K.2.2.2.1 K.2.2.2.2.1 #[Value.ref K.2.2.2.2.2.2.2.2.1] K.2.2.2.2.2.1 K.2.2.2.2.2.2.1 K.2.2.2.2.2.2.2.1 H locs 600000 7302250 (lw_Z K.2.2.2.2.2.1 #[Value.ref K.2.2.2.2.2.2.2.2.1] K.2.2.2.1) (F0 K.2.2.2.2.1 pc ls st)
section YR
variable {K : yK} {L : Nat} {xs : Nat → Int32} {SX SM : zSt} {pc : Nat} {lv : List (Nat × Value)} {st : List Value}
theorem y_sub {lv' : List (Nat × Value)} (ks : List Nat) (hl : lv_pick lv ks = lv') (k : yX K SX SM pc lv' st) : yX K SX SM pc lv st := fun H locs ls hP hS h => k H locs ls hP hS (lv_sub h ks hl)
theorem y_iconst (Y : yAt K L xs) {n : Int} (v : Int32) (hd : decode code pc = .ok (.iconst n, 1)) (hv : Int32.ofInt n = v) (k : yX K SX SM (pc + 1) lv (.int v :: st)) : yX K SX SM pc lv st := fun H locs ls hP hS hl => lv_iconst Y.1.1 Y.1.2.1 hd hv (k H locs ls hP hS hl)
theorem y_bipush (Y : yAt K L xs) {n : Int} (v : Int32) (hd : decode code pc = .ok (.bipush n, 2)) (hv : (Int8.ofInt n).toInt32 = v) (k : yX K SX SM (pc + 2) lv (.int v :: st)) : yX K SX SM pc lv st := fun H locs ls hP hS hl => lv_bipush Y.1.1 Y.1.2.1 hd hv (k H locs ls hP hS hl)
theorem y_iload_n (Y : yAt K L xs) {j : Fin 4} {i : Nat} {x : Int32} (q : Nat) (hd : decode code pc = .ok (.iload_n j, 1)) (hi : (j : Nat) = i) (hq : lv[q]? = some (i, .int x)) (k : yX K SX SM (pc + 1) lv (.int x :: st)) : yX K SX SM pc lv st := fun H locs ls hP hS hl => lv_iload_n Y.1.1 Y.1.2.1 hd hi (lv_at hl q hq) (k H locs ls hP hS hl)
theorem y_aload_n (Y : yAt K L xs) {j : Fin 4} {i : Nat} {x : Nat} (q : Nat) (hd : decode code pc = .ok (.aload_n j, 1)) (hi : (j : Nat) = i) (hq : lv[q]? = some (i, .ref x)) (k : yX K SX SM (pc + 1) lv (.ref x :: st)) : yX K SX SM pc lv st := fun H locs ls hP hS hl => lv_aload_n Y.1.1 Y.1.2.1 hd hi (lv_at hl q hq) (k H locs ls hP hS hl)
theorem y_iadd (Y : yAt K L xs) {x y : Int32} (hd : decode code pc = .ok (.iadd, 1)) (k : yX K SX SM (pc + 1) lv (.int (x + y) :: st)) : yX K SX SM pc lv (.int y :: .int x :: st) := fun H locs ls hP hS hl => lv_iadd Y.1.1 Y.1.2.1 hd (k H locs ls hP hS hl)
theorem y_isub (Y : yAt K L xs) {x y : Int32} (hd : decode code pc = .ok (.isub, 1)) (k : yX K SX SM (pc + 1) lv (.int (x - y) :: st)) : yX K SX SM pc lv (.int y :: .int x :: st) := fun H locs ls hP hS hl => lv_isub Y.1.1 Y.1.2.1 hd (k H locs ls hP hS hl)
theorem y_iand (Y : yAt K L xs) {x y : Int32} (hd : decode code pc = .ok (.iand, 1)) (k : yX K SX SM (pc + 1) lv (.int (x &&& y) :: st)) : yX K SX SM pc lv (.int y :: .int x :: st) := fun H locs ls hP hS hl => lv_iand Y.1.1 Y.1.2.1 hd (k H locs ls hP hS hl)
theorem y_sld (Y : yAt K L xs) {i : Int32} {a : Nat} (ha : K.2.2.2.2.2.2.2.2.1 = a) (hi : vp_in i L) (hd : decode code pc = .ok (.iaload, 1)) (k : yX K SX SM (pc + 1) lv (.int (xs i.toNatClampNeg) :: st)) : yX K SX SM pc lv (.int i :: .ref a :: st) := by
  intro H locs ls hP hS hl
  subst ha
  exact va_sld Y.1.1 Y.1.2.1 Y.2.2.2.2.2.2.2.2.2.1 Y.2.2.2.2.2.2.2.2.2.2.1 (Nat.not_le.mpr Y.2.2.2.2.2.2.2.2.2.2.1) hS hi hd (k H locs ls hP hS hl)
theorem y_slen (Y : yAt K L xs) {a : Nat} (ha : K.2.2.2.2.2.2.2.2.1 = a) (hd : decode code pc = .ok (.arraylength, 1)) (k : yX K SX SM (pc + 1) lv (.int (Int32.ofNat L) :: st)) : yX K SX SM pc lv (.ref a :: st) := by
  intro H locs ls hP hS hl
  subst ha
  exact va_slen Y.1.1 Y.1.2.1 Y.2.2.2.2.2.2.2.2.2.1 Y.2.2.2.2.2.2.2.2.2.2.1 (Nat.not_le.mpr Y.2.2.2.2.2.2.2.2.2.2.1) hS hd (k H locs ls hP hS hl)
theorem y_icmp_gt (Y : yAt K L xs) {x y : Int32} {off : Int} (tgt : Nat) (hd : decode code pc = .ok (.if_icmp .gt off, 3)) (ht : (pc : Int) + off = (tgt : Int)) (kt : y < x → yX K SX SM tgt lv st) (kf : ¬ y < x → yX K SX SM (pc + 3) lv st) : yX K SX SM pc lv (.int y :: .int x :: st) := fun H locs ls hP hS hl => lv_icmp_gt Y.1.1 Y.1.2.1 hd ht (fun h => kt h H locs ls hP hS hl) (fun h => kf h H locs ls hP hS hl)
theorem y_same (Y : yAt K L xs) {x : Int32} {off : Int} (tgt : Nat) (hd : decode code pc = .ok (.if_icmp .eq off, 3)) (ht : (pc : Int) + off = (tgt : Int)) (kt : yX K SX SM tgt lv st) : yX K SX SM pc lv (.int x :: .int x :: st) := fun H locs ls hP hS hl => lv_icmp_eq Y.1.1 Y.1.2.1 hd ht (fun _ => kt H locs ls hP hS hl) (fun h => absurd rfl h)
theorem y_samel (Y : yAt K L xs) {x : Int64} {off : Int} (tgt : Nat) (hd : decode code pc = .ok (.lcmp, 1)) (hd2 : decode code (pc + 1) = .ok (.ifCond .eq off, 3)) (ht : ((pc + 1 : Nat) : Int) + off = (tgt : Int)) (kt : yX K SX SM tgt lv st) : yX K SX SM pc lv (.long x :: .long x :: st) := fun H locs ls hP hS hl => W.lcmp Y.1.1 Y.1.2.1 hd (lv_if_eq Y.1.1 Y.1.2.1 hd2 ht (fun _ => kt H locs ls hP hS hl) (fun h => absurd (by simp [lg_cmp]) h))
theorem y_goto (Y : yAt K L xs) {off : Int} (tgt : Nat) (hd : decode code pc = .ok (.goto off, 3)) (ht : (pc : Int) + off = (tgt : Int)) (k : yX K SX SM tgt lv st) : yX K SX SM pc lv st := fun H locs ls hP hS hl => lv_goto Y.1.1 Y.1.2.1 hd ht (k H locs ls hP hS hl)
theorem y_iinc (Y : yAt K L xs) {i : Nat} {n : Int} {x : Int32} (q : Nat) (v : Int32) {lv' : List (Nat × Value)} (hd : decode code pc = .ok (.iinc i n, 3)) (hq : lv[q]? = some (i, .int x)) (hv : x + Int32.ofInt n = v) (hn : i < 4) (hl' : (i, Value.int v) :: lv.filter (fun q => !(q.1 == i) && !(q.1 + 1 == i && q.2.category == 2)) = lv') (k : yX K SX SM (pc + 3) lv' st) : yX K SX SM pc lv st := fun H locs ls hP hS hl => lv_iinc Y.1.1 Y.1.2.1 hd hl hq hv hn hl' (fun ls' hl2 => k H locs ls' hP hS hl2)
theorem y_tabOut (Y : yAt K L xs) {dflt lo hi : Int} {offs : Array Int} {len : Nat} {x : Int32} (tgt : Nat) (hd : decode code pc = .ok (.tableswitch dflt lo hi offs, len)) (h : x.toInt < lo ∨ hi < x.toInt) (ht : (pc : Int) + dflt = (tgt : Int)) (k : yX K SX SM tgt lv st) : yX K SX SM pc lv (.int x :: st) := fun H locs ls hP hS hl => lv_tableOut Y.1.1 Y.1.2.1 hd h ht (k H locs ls hP hS hl)
theorem y_tabIn (Y : yAt K L xs) {dflt lo hi : Int} {offs : Array Int} {len : Nat} {x : Int32} {off : Int} (tgt : Nat) (hd : decode code pc = .ok (.tableswitch dflt lo hi offs, len)) (h1 : ¬ x.toInt < lo) (h2 : ¬ hi < x.toInt) (ho : offs[(x.toInt - lo).toNat]? = some off) (ht : (pc : Int) + off = (tgt : Int)) (k : yX K SX SM tgt lv st) : yX K SX SM pc lv (.int x :: st) := fun H locs ls hP hS hl => lv_tableIn Y.1.1 Y.1.2.1 hd h1 h2 ho ht (k H locs ls hP hS hl)
theorem y_swc (c : Int32) {x : Int32} (k1 : yX K SX SM pc lv (.int c :: st)) (k2 : ¬ x = c → yX K SX SM pc lv (.int x :: st)) : yX K SX SM pc lv (.int x :: st) := by
  by_cases h : x = c
  · rw [h]; exact k1
  · exact k2 h
theorem y_ret (Y : yAt K L xs) (hd : decode code pc = .ok (.ireturn, 1)) : yX K SX SM pc lv [.int 1] := fun H locs ls hP hS hl => va_forget (fun q hq => hS.2.2 q hq) (lw_ret Y.1.1 Y.1.2.1 Y.2.2.2.2.2.2.2.2.2.2.2.2 Y.2.2.2.2.2.2.2.2.2.2.2.1 hd)
theorem zPl {D : va_G} {w1 w2 : va_W} {H : Heap} (h : va_P D vwCl (w1 ++ w2) H) : va_P D vwCl w1 H := fun k q hk => h k q (by rw [List.getElem?_append_left (List.getElem?_eq_some_iff.mp hk).1]; exact hk)
theorem zPr {D : va_G} {w1 w2 : va_W} {H : Heap} (h : va_P D vwCl (w1 ++ w2) H) : va_P D vwCl w2 H := fun k q hk => h (w1.length + k) q (by rw [List.getElem?_append_right (by omega)]; simpa using hk)
theorem zNot {w : zWl} {n q : Nat} (h1 : ∀ k, k < w.1 → q ≠ w.2.1 k) (h2 : q < n) : ¬ zAA w n q := fun h => by
  rcases h with ⟨k, hk, e⟩ | h
  · exact h1 k hk e
  · omega
theorem y_callX (Y : yAt K L xs) {y : MethodName} {ws ws' : List Cond} {bytes : ByteArray} {maxL idx : Nat} {ret : Option FieldType} {rm' : Room} {As rest st0 : List Value} {out : zOut} (n : Nat) (hM : zMet K.2.1 K.2.2.2.2.2.2.2.2.2.1 (WX K.2.2.2.2.2.2.2.2.2.2.1) (zT K.2.2.2.2.2.2.2.2.2.2.1) y ws rm' SX (.ref (K.2.2.2.2.2.2.2.2.2.2.1.1 0) :: As) out) (hG : GoodIn lw_tbl (wsV RL idx RX10 y ws)) (hw : ws = Cond.code y bytes maxL ret :: ws') (hrc : rm'.cells = 0) (hrs : rm'.slots = 0)
    (hdd : y.cls = RX10 ∧ y.cls ≠ "java/lang/invoke/MethodHandle" ∧ y.cls ≠ "java/lang/invoke/VarHandle" ∧ (parseMethodDescriptor y.desc).map (fun d => d.parameters.length) = some n) (hR : rm'.frames + 1 ≤ 9 ∧ 8 + (maxL + 11) + rm'.locals ≤ 344) (hn : As.length = n) (hst : st0 = As.reverse ++ .ref (K.2.2.2.2.2.2.2.2.2.2.1.1 0) :: rest) (hrest : (rest.map fun v => v.category).sum ≤ 8) (hd : decode code pc = .ok (.invokevirtual idx, 3)) (k : yX K out.2 SM (pc + 3) lv (out.1.toList ++ rest)) : yX K SX SM pc lv st0 := by
  intro H locs ls hP hS hl T hT X
  have hTy : va_K K.2.2.2.2.2.2.2.2.2.1 vwCl (zT K.2.2.2.2.2.2.2.2.2.2.1) K.2.2.2.1 := by
    have h := Y.2.1
    have e := Y.2.2.2.2.2.2.1
    exact h
  have hPm := (zPl hP)
  have hPo := (zPr hP)
  obtain ⟨v, st₀, t, T', L', h0, X', hL, e1, e2, ⟨hv, hPn, hz, hk⟩, hgo⟩ := va_runV (As := As) (rest := rest) Y.1 (hM H.size) (cwV n Y.1.2.2.2.2 hG hw hrc hrs hdd hR) ⟨zP_blind, va_recv hTy hPm (ci := 9) (q0 := 0) rfl (by rw [zws_get (Nat.le_of_ble_eq_true rfl), cX_0]), fun U hU hW => ⟨rfl, by rw [hU], by rw [hU]; exact hPm, va_K.moved hW.alike hTy, zNs.warm hW Y.2.2.1⟩⟩ (g := F0 K.2.2.2.2.1 pc ls st0) rfl hn hl.1 hst (lv_room hrest) hd ⟨Nat.le_of_ble_eq_true rfl, Nat.le_of_ble_eq_true rfl⟩ T hT X
  rw [h0] at hz hk
  have hv : v = out.1 := by injection hv
  rw [hv] at hgo
  have up : ∀ q : Nat, zAA (WX K.2.2.2.2.2.2.2.2.2.2.1) H.size q → K.2.2.2.1.heap.size ≤ q := fun q h => by
    rcases h with ⟨k9, h9, e9⟩ | h
    · rw [e9]; exact Y.2.2.2.2.2.2.2.1 k9 h9
    · exact Nat.le_trans hS.1 h
  have hPo2 : va_P K.2.2.2.2.2.2.2.2.2.1 vwCl (zws (WM K.2.2.2.2.2.2.2.2.2.2.2) SM) t.heap := hPo.kept (fun j q hj => by
    have hlt := (hPo j q hj).lt
    obtain ⟨hj9, rfl⟩ := zws_at hj
    exact hk _ hlt (zNot (fun k hk e => Y.2.2.2.2.2.1 k j hk hj9 e.symm) hlt))
  obtain ⟨t2, a1, b1⟩ := k T'.heap (locs ++ L') ls (by rw [e1]; exact (hPn.app hPo2))
    ⟨Nat.le_trans hS.1 (by rw [e1]; exact hz), fun q h1 h2 => by rw [e1, hk q (Nat.lt_of_lt_of_le h1 hS.1) (fun z => h2 (up q z))]; exact hS.2.1 q h1 h2, fun q hq => by
      rcases List.mem_append.mp hq with h | h
      · exact hS.2.2 q h
      · exact up _ (hL q h)⟩ hl T' rfl X'
  exact ⟨t2, hgo t2 a1, b1⟩
theorem y_callM (Y : yAt K L xs) {y : MethodName} {ws ws' : List Cond} {bytes : ByteArray} {maxL idx : Nat} {ret : Option FieldType} {rm' : Room} {As rest st0 : List Value} {out : zOut} (n : Nat) (hM : zMet K.2.1 K.2.2.2.2.2.2.2.2.2.1 (WM K.2.2.2.2.2.2.2.2.2.2.2) (zT K.2.2.2.2.2.2.2.2.2.2.2) y ws rm' SM (.ref (K.2.2.2.2.2.2.2.2.2.2.2.1 0) :: As) out) (hG : GoodIn lw_tbl (wsV RL idx RX11 y ws)) (hw : ws = Cond.code y bytes maxL ret :: ws') (hrc : rm'.cells = 0) (hrs : rm'.slots = 0)
    (hdd : y.cls = RX11 ∧ y.cls ≠ "java/lang/invoke/MethodHandle" ∧ y.cls ≠ "java/lang/invoke/VarHandle" ∧ (parseMethodDescriptor y.desc).map (fun d => d.parameters.length) = some n) (hR : rm'.frames + 1 ≤ 9 ∧ 8 + (maxL + 11) + rm'.locals ≤ 344) (hn : As.length = n) (hst : st0 = As.reverse ++ .ref (K.2.2.2.2.2.2.2.2.2.2.2.1 0) :: rest) (hrest : (rest.map fun v => v.category).sum ≤ 8) (hd : decode code pc = .ok (.invokevirtual idx, 3)) (k : yX K SX out.2 (pc + 3) lv (out.1.toList ++ rest)) : yX K SX SM pc lv st0 := by
  intro H locs ls hP hS hl T hT X
  have hTy : va_K K.2.2.2.2.2.2.2.2.2.1 vwCl (zT K.2.2.2.2.2.2.2.2.2.2.2) K.2.2.2.1 := by
    have h := Y.2.1
    have e := Y.2.2.2.2.2.2.1
    unfold zT at h ⊢; rw [e]; exact h
  have hPm := (zPr hP)
  have hPo := (zPl hP)
  obtain ⟨v, st₀, t, T', L', h0, X', hL, e1, e2, ⟨hv, hPn, hz, hk⟩, hgo⟩ := va_runV (As := As) (rest := rest) Y.1 (hM H.size) (cwV n Y.1.2.2.2.2 hG hw hrc hrs hdd hR) ⟨zP_blind, va_recv hTy hPm (ci := 10) (q0 := 0) rfl (by rw [zws_get (Nat.le_of_ble_eq_true rfl), cM_0]), fun U hU hW => ⟨rfl, by rw [hU], by rw [hU]; exact hPm, va_K.moved hW.alike hTy, zNs.warm hW Y.2.2.1⟩⟩ (g := F0 K.2.2.2.2.1 pc ls st0) rfl hn hl.1 hst (lv_room hrest) hd ⟨Nat.le_of_ble_eq_true rfl, Nat.le_of_ble_eq_true rfl⟩ T hT X
  rw [h0] at hz hk
  have hv : v = out.1 := by injection hv
  rw [hv] at hgo
  have up : ∀ q : Nat, zAA (WM K.2.2.2.2.2.2.2.2.2.2.2) H.size q → K.2.2.2.1.heap.size ≤ q := fun q h => by
    rcases h with ⟨k9, h9, e9⟩ | h
    · rw [e9]; exact Y.2.2.2.2.2.2.2.2.1 k9 h9
    · exact Nat.le_trans hS.1 h
  have hPo2 : va_P K.2.2.2.2.2.2.2.2.2.1 vwCl (zws (WX K.2.2.2.2.2.2.2.2.2.2.1) SX) t.heap := hPo.kept (fun j q hj => by
    have hlt := (hPo j q hj).lt
    obtain ⟨hj9, rfl⟩ := zws_at hj
    exact hk _ hlt (zNot (fun k hk e => Y.2.2.2.2.2.1 j k hj9 hk e) hlt))
  obtain ⟨t2, a1, b1⟩ := k T'.heap (locs ++ L') ls (by rw [e1]; exact (hPo2.app hPn))
    ⟨Nat.le_trans hS.1 (by rw [e1]; exact hz), fun q h1 h2 => by rw [e1, hk q (Nat.lt_of_lt_of_le h1 hS.1) (fun z => h2 (up q z))]; exact hS.2.1 q h1 h2, fun q hq => by
      rcases List.mem_append.mp hq with h | h
      · exact hS.2.2 q h
      · exact up _ (hL q h)⟩ hl T' rfl X'
  exact ⟨t2, hgo t2 a1, b1⟩
end YR
