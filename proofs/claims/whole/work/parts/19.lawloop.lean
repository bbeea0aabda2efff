def ag_type (R : zSt → zSt → Prop) : Prop := ∀ (SX SM : zSt) (a1 : Int32), R SX SM → ∃ (r : Int32) (SX1 SM1 : zSt), F_X10_type SX a1 = some (r, SX1) ∧ F_X11_type SM a1 = some (r, SM1) ∧ R SX1 SM1
def ag_wipe (R : zSt → zSt → Prop) : Prop := ∀ (SX SM : zSt), R SX SM → ∃ (r : Int32) (SX1 SM1 : zSt), F_X10_wipe SX = some (r, SX1) ∧ F_X11_wipe SM = some (r, SM1) ∧ R SX1 SM1
def ag_fault (R : zSt → zSt → Prop) : Prop := ∀ (SX SM : zSt), R SX SM → ∃ (r : Int32) (SX1 SM1 : zSt), F_X10_fault SX = some (r, SX1) ∧ F_X11_fault SM = some (r, SM1) ∧ R SX1 SM1
def ag_line (R : zSt → zSt → Prop) : Prop := ∀ (SX SM : zSt) (a1 : Int32), R SX SM → ∃ (r : Int32) (SX1 SM1 : zSt), F_X10_line SX a1 = some (r, SX1) ∧ F_X11_line SM a1 = some (r, SM1) ∧ R SX1 SM1
def ag_waits (R : zSt → zSt → Prop) : Prop := ∀ (SX SM : zSt) (a1 a2 : Int32), R SX SM → ∃ (r : Int32), F_X10_waits SX a1 a2 = some r ∧ F_X11_waits SM a1 a2 = some r
def ag_met (R : zSt → zSt → Prop) : Prop := ∀ (SX SM : zSt) (a1 a2 : Int32), R SX SM → ∃ (r : Int32), F_X10_met SX a1 a2 = some r ∧ F_X11_met SM a1 a2 = some r
def ag_gaps (R : zSt → zSt → Prop) : Prop := ∀ (SX SM : zSt) (a1 a2 a3 : Int32), R SX SM → ∃ (r : Int64), F_X10_gaps SX a1 a2 a3 = some r ∧ F_X11_gaps SM a1 a2 a3 = some r
def ag_held (R : zSt → zSt → Prop) : Prop := ∀ (SX SM : zSt) (a1 a2 a3 : Int32), R SX SM → ∃ (r : Int32) (SX1 SM1 : zSt), F_X10_held SX a1 a2 a3 = some (r, SX1) ∧ F_X11_held SM a1 a2 a3 = some (r, SM1) ∧ R SX1 SM1
def ag_asked (R : zSt → zSt → Prop) : Prop := ∀ (SX SM : zSt) (a1 a2 : Int32), R SX SM → ∃ (r : Int32) (SX1 SM1 : zSt), F_X10_asked SX a1 a2 = some (r, SX1) ∧ F_X11_asked SM a1 a2 = some (r, SM1) ∧ R SX1 SM1
def ag_read (R : zSt → zSt → Prop) : Prop := ∀ (SX SM : zSt) (a1 a2 : Int32), R SX SM → ∃ (r : Int32) (SX1 SM1 : zSt), F_X10_read SX a1 a2 = some (r, SX1) ∧ F_X11_read SM a1 a2 = some (r, SM1) ∧ R SX1 SM1
def ag_takeBack (R : zSt → zSt → Prop) : Prop := ∀ (SX SM : zSt) (a1 a2 : Int32), R SX SM → ∃ (r : Int32) (SX1 SM1 : zSt), F_X10_takeBack SX a1 a2 = some (r, SX1) ∧ F_X11_takeBack SM a1 a2 = some (r, SM1) ∧ R SX1 SM1
def ag_asOf (R : zSt → zSt → Prop) : Prop := ∀ (SX SM : zSt) (a1 : Int32), R SX SM → ∃ (r : Int32) (SX1 SM1 : zSt), F_X10_asOf SX a1 = some (r, SX1) ∧ F_X11_asOf SM a1 = some (r, SM1) ∧ R SX1 SM1
def ag_said (R : zSt → zSt → Prop) : Prop := ∀ (SX SM : zSt) (a1 : Int32), R SX SM → ∃ (r : Int32), F_X10_said SX a1 = some r ∧ F_X11_said SM a1 = some r
def ag_share (R : zSt → zSt → Prop) : Prop := ∀ (SX SM : zSt) (a1 a2 a3 : Int32), R SX SM → ∃ (r : Int64), F_X10_share SX a1 a2 a3 = some r ∧ F_X11_share SM a1 a2 a3 = some r
def ag_size (R : zSt → zSt → Prop) : Prop := ∀ (SX SM : zSt) (a1 a2 : Int32), R SX SM → ∃ (r : Int64), F_X10_size SX a1 a2 = some r ∧ F_X11_size SM a1 a2 = some r
def ag_families (R : zSt → zSt → Prop) : Prop := ∀ (SX SM : zSt) (a1 a2 a3 : Int32), R SX SM → ∃ (r : Int32) (SX1 SM1 : zSt), F_X10_families SX a1 a2 a3 = some (r, SX1) ∧ F_X11_families SM a1 a2 a3 = some (r, SM1) ∧ R SX1 SM1
def ag_chance (R : zSt → zSt → Prop) : Prop := ∀ (SX SM : zSt) (a1 a2 : Int32), R SX SM → ∃ (r : Int64), F_X10_chance SX a1 a2 = some r ∧ F_X11_chance SM a1 a2 = some r
def ag_likeliest (R : zSt → zSt → Prop) : Prop := ∀ (SX SM : zSt), R SX SM → ∃ (r : Int32), F_X10_likeliest SX = some r ∧ F_X11_likeliest SM = some r
def ag_stay (R : zSt → zSt → Prop) : Prop := ∀ (SX SM : zSt) (a1 a2 : Int32), R SX SM → ∃ (r : Int32) (SX1 SM1 : zSt), F_X10_stay SX a1 a2 = some (r, SX1) ∧ F_X11_stay SM a1 a2 = some (r, SM1) ∧ R SX1 SM1
def ag_leaves (R : zSt → zSt → Prop) : Prop := ∀ (SX SM : zSt) (a1 a2 : Int32), R SX SM → ∃ (r : Int32) (SX1 SM1 : zSt), F_X10_leaves SX a1 a2 = some (r, SX1) ∧ F_X11_leaves SM a1 a2 = some (r, SM1) ∧ R SX1 SM1
def ag_ward (R : zSt → zSt → Prop) : Prop := ∀ (SX SM : zSt) (a1 a2 a3 : Int32), R SX SM → ∃ (r : Int32), F_X10_ward SX a1 a2 a3 = some r ∧ F_X11_ward SM a1 a2 a3 = some r
def ag_means (R : zSt → zSt → Prop) : Prop := ∀ (SX SM : zSt) (a1 a2 a3 a4 : Int32), R SX SM → ∃ (r : Int64), F_X10_means SX a1 a2 a3 a4 = some r ∧ F_X11_means SM a1 a2 a3 a4 = some r
def ag_fullest (R : zSt → zSt → Prop) : Prop := ∀ (SX SM : zSt) (a1 : Int32), R SX SM → ∃ (r : Int32), F_X10_fullest SX a1 = some r ∧ F_X11_fullest SM a1 = some r
def ag_friends (R : zSt → zSt → Prop) : Prop := ∀ (SX SM : zSt) (a1 a2 a3 : Int32), R SX SM → ∃ (r : Int32) (SX1 SM1 : zSt), F_X10_friends SX a1 a2 a3 = some (r, SX1) ∧ F_X11_friends SM a1 a2 a3 = some (r, SM1) ∧ R SX1 SM1
def ag_mean (R : zSt → zSt → Prop) : Prop := ∀ (SX SM : zSt) (a1 a2 : Int32), R SX SM → ∃ (r : Int64), F_X10_mean SX a1 a2 = some r ∧ F_X11_mean SM a1 a2 = some r
def ag_fewer (R : zSt → zSt → Prop) : Prop := ∀ (SX SM : zSt), R SX SM → ∃ (r : Int32), F_X10_fewer SX = some r ∧ F_X11_fewer SM = some r
def ag_picked (R : zSt → zSt → Prop) : Prop := ∀ (SX SM : zSt) (a1 a2 : Int32), R SX SM → ∃ (r : Int64), F_X10_picked SX a1 a2 = some r ∧ F_X11_picked SM a1 a2 = some r
def ag_best (R : zSt → zSt → Prop) : Prop := ∀ (SX SM : zSt) (a1 a2 : Int32), R SX SM → ∃ (r : Int32), F_X10_best SX a1 a2 = some r ∧ F_X11_best SM a1 a2 = some r
def ag_piece (R : zSt → zSt → Prop) : Prop := ∀ (SX SM : zSt) (a1 : Int32), R SX SM → ∃ (r : Int32) (SX1 SM1 : zSt), F_X10_piece SX a1 = some (r, SX1) ∧ F_X11_piece SM a1 = some (r, SM1) ∧ R SX1 SM1
def ag_snap (R : zSt → zSt → Prop) : Prop := ∀ (SX SM : zSt), R SX SM → ∃ (r : Int32) (SX1 SM1 : zSt), F_X10_snap SX = some (r, SX1) ∧ F_X11_snap SM = some (r, SM1) ∧ R SX1 SM1
def ag_hit (R : zSt → zSt → Prop) : Prop := ∀ (SX SM : zSt) (a1 a2 a3 : Int32), R SX SM → ∃ (r : Int64), F_X10_hit SX a1 a2 a3 = some r ∧ F_X11_hit SM a1 a2 a3 = some r
def ag_stick (R : zSt → zSt → Prop) : Prop := ∀ (SX SM : zSt) (a1 a2 a3 : Int32), R SX SM → ∃ (r : Int64), F_X10_stick SX a1 a2 a3 = some r ∧ F_X11_stick SM a1 a2 a3 = some r
def ag_sheet (R : zSt → zSt → Prop) : Prop := ∀ (SX SM : zSt) (a1 a2 a3 : Int32), R SX SM → ∃ (r : Int32) (SX1 SM1 : zSt), F_X10_sheet SX a1 a2 a3 = some (r, SX1) ∧ F_X11_sheet SM a1 a2 a3 = some (r, SM1) ∧ R SX1 SM1
def ag_lose (R : zSt → zSt → Prop) : Prop := ∀ (SX SM : zSt) (a1 : Int32), R SX SM → ∃ (r : Int32) (SX1 SM1 : zSt), F_X10_lose SX a1 = some (r, SX1) ∧ F_X11_lose SM a1 = some (r, SM1) ∧ R SX1 SM1
def ag_put (R : zSt → zSt → Prop) : Prop := ∀ (SX SM : zSt) (a1 a2 a3 a4 : Int32), R SX SM → ∃ (r : Int32) (SX1 SM1 : zSt), F_X10_put SX a1 a2 a3 a4 = some (r, SX1) ∧ F_X11_put SM a1 a2 a3 a4 = some (r, SM1) ∧ R SX1 SM1
def ag_get (R : zSt → zSt → Prop) : Prop := ∀ (SX SM : zSt) (a1 a2 a3 : Int32), R SX SM → ∃ (r : Int32) (SX1 SM1 : zSt), F_X10_get SX a1 a2 a3 = some (r, SX1) ∧ F_X11_get SM a1 a2 a3 = some (r, SM1) ∧ R SX1 SM1
def ag_copy (R : zSt → zSt → Prop) : Prop := ∀ (SX SM : zSt) (a1 a2 a3 a4 a5 : Int32), R SX SM → ∃ (r : Int32) (SX1 SM1 : zSt), F_X10_copy SX a1 a2 a3 a4 a5 = some (r, SX1) ∧ F_X11_copy SM a1 a2 a3 a4 a5 = some (r, SM1) ∧ R SX1 SM1
def ag_write (R : zSt → zSt → Prop) : Prop := ∀ (SX SM : zSt) (a1 a2 : Int32), R SX SM → ∃ (r : Int32) (SX1 SM1 : zSt), F_X10_write SX a1 a2 = some (r, SX1) ∧ F_X11_write SM a1 a2 = some (r, SM1) ∧ R SX1 SM1
def ag_count (R : zSt → zSt → Prop) : Prop := ∀ (SX SM : zSt) (a1 : Int32), R SX SM → ∃ (r : Int32), F_X10_count SX a1 = some r ∧ F_X11_count SM a1 = some r
def ag_digest (R : zSt → zSt → Prop) : Prop := ∀ (SX SM : zSt), R SX SM → ∃ (r : Int64) (SX1 SM1 : zSt), F_X10_digest SX = some (r, SX1) ∧ F_X11_digest SM = some (r, SM1) ∧ R SX1 SM1
def yAg (R : zSt → zSt → Prop) : Prop := ag_type R ∧ ag_wipe R ∧ ag_fault R ∧ ag_line R ∧ ag_waits R ∧ ag_met R ∧ ag_gaps R ∧ ag_held R ∧ ag_asked R ∧ ag_read R ∧ ag_takeBack R ∧ ag_asOf R ∧ ag_said R ∧ ag_share R ∧ ag_size R ∧ ag_families R ∧ ag_chance R ∧ ag_likeliest R ∧ ag_stay R ∧ ag_leaves R ∧ ag_ward R ∧ ag_means R ∧ ag_fullest R ∧ ag_friends R ∧ ag_mean R ∧ ag_fewer R ∧ ag_picked R ∧ ag_best R ∧ ag_piece R ∧ ag_snap R ∧ ag_hit R ∧ ag_stick R ∧ ag_sheet R ∧ ag_lose R ∧ ag_put R ∧ ag_get R ∧ ag_copy R ∧ ag_write R ∧ ag_count R ∧ ag_digest R
set_option maxRecDepth 100000 in
set_option maxHeartbeats 4000000 in
theorem y_case0 {K : yK} {L : Nat} {xs : Nat → Int32} (Y : yAt K L xs) {R : zSt → zSt → Prop} (hag : ag_type R) {SX SM : zSt} (hR : R SX SM) {x3 : Int32} (i1 : vp_in (x3 + (1 : Int32)) L) (kk : ∀ SX1 SM1, R SX1 SM1 → yX K SX1 SM1 1508 [(0, .ref K.2.2.2.2.2.2.2.2.1), (1, .ref (K.2.2.2.2.2.2.2.2.2.2.1.1 0)), (2, .ref (K.2.2.2.2.2.2.2.2.2.2.2.1 0)), (3, .int x3)] []) : yX K SX SM 208 [(0, .ref K.2.2.2.2.2.2.2.2.1), (1, .ref (K.2.2.2.2.2.2.2.2.2.2.1.1 0)), (2, .ref (K.2.2.2.2.2.2.2.2.2.2.2.1 0)), (3, .int x3)] [] := by
  obtain ⟨r, SX1, SM1, hx, hm, hR1⟩ := hag SX SM (xs (x3 + (1 : Int32)).toNatClampNeg) hR
  refine y_aload_n Y 1 dL_law_208 rfl rfl ?_
  refine y_aload_n Y 0 dL_law_209 rfl rfl ?_
  refine y_iload_n Y 3 dL_law_210 rfl rfl ?_
  refine y_iconst Y (1 : Int32) dL_law_211 (by decide) ?_
  refine y_iadd Y dL_law_212 ?_
  refine y_sld Y rfl i1 dL_law_213 ?_
  refine y_callX (As := [.int (xs (x3 + (1 : Int32)).toNatClampNeg)]) (rest := []) Y 1 (k_X10_type Y.2.2.2.1 hx) gl_X10_type rfl rfl rfl y_X10_type ⟨Nat.le_of_ble_eq_true rfl, Nat.le_of_ble_eq_true rfl⟩ rfl rfl (Nat.le_of_ble_eq_true rfl) dL_law_214 ?_
  show yX K SX1 SM 217 _ [.int r]
  refine y_aload_n Y 2 dL_law_217 rfl rfl ?_
  refine y_aload_n Y 0 dL_law_218 rfl rfl ?_
  refine y_iload_n Y 3 dL_law_219 rfl rfl ?_
  refine y_iconst Y (1 : Int32) dL_law_220 (by decide) ?_
  refine y_iadd Y dL_law_221 ?_
  refine y_sld Y rfl i1 dL_law_222 ?_
  refine y_callM (As := [.int (xs (x3 + (1 : Int32)).toNatClampNeg)]) (rest := [.int r]) Y 1 (k_X11_type Y.2.2.2.2.1 hm) gl_X11_type rfl rfl rfl y_X11_type ⟨Nat.le_of_ble_eq_true rfl, Nat.le_of_ble_eq_true rfl⟩ rfl rfl (Nat.le_of_ble_eq_true rfl) dL_law_223 ?_
  show yX K SX1 SM1 226 _ [.int r, .int r]
  refine y_same Y 1508 dL_law_226 (by decide) ?_
  exact kk _ _ hR1
set_option maxRecDepth 100000 in
set_option maxHeartbeats 4000000 in
theorem y_case1 {K : yK} {L : Nat} {xs : Nat → Int32} (Y : yAt K L xs) {R : zSt → zSt → Prop} (hag : ag_wipe R) {SX SM : zSt} (hR : R SX SM) {x3 : Int32}  (kk : ∀ SX1 SM1, R SX1 SM1 → yX K SX1 SM1 1508 [(0, .ref K.2.2.2.2.2.2.2.2.1), (1, .ref (K.2.2.2.2.2.2.2.2.2.2.1.1 0)), (2, .ref (K.2.2.2.2.2.2.2.2.2.2.2.1 0)), (3, .int x3)] []) : yX K SX SM 231 [(0, .ref K.2.2.2.2.2.2.2.2.1), (1, .ref (K.2.2.2.2.2.2.2.2.2.2.1.1 0)), (2, .ref (K.2.2.2.2.2.2.2.2.2.2.2.1 0)), (3, .int x3)] [] := by
  obtain ⟨r, SX1, SM1, hx, hm, hR1⟩ := hag SX SM  hR
  refine y_aload_n Y 1 dL_law_231 rfl rfl ?_
  refine y_callX (As := []) (rest := []) Y 0 (k_X10_wipe Y.2.2.2.1 hx) gl_X10_wipe rfl rfl rfl y_X10_wipe ⟨Nat.le_of_ble_eq_true rfl, Nat.le_of_ble_eq_true rfl⟩ rfl rfl (Nat.le_of_ble_eq_true rfl) dL_law_232 ?_
  show yX K SX1 SM 235 _ [.int r]
  refine y_aload_n Y 2 dL_law_235 rfl rfl ?_
  refine y_callM (As := []) (rest := [.int r]) Y 0 (k_X11_wipe Y.2.2.2.2.1 hm) gl_X11_wipe rfl rfl rfl y_X11_wipe ⟨Nat.le_of_ble_eq_true rfl, Nat.le_of_ble_eq_true rfl⟩ rfl rfl (Nat.le_of_ble_eq_true rfl) dL_law_236 ?_
  show yX K SX1 SM1 239 _ [.int r, .int r]
  refine y_same Y 1508 dL_law_239 (by decide) ?_
  exact kk _ _ hR1
set_option maxRecDepth 100000 in
set_option maxHeartbeats 4000000 in
theorem y_case2 {K : yK} {L : Nat} {xs : Nat → Int32} (Y : yAt K L xs) {R : zSt → zSt → Prop} (hag : ag_fault R) {SX SM : zSt} (hR : R SX SM) {x3 : Int32}  (kk : ∀ SX1 SM1, R SX1 SM1 → yX K SX1 SM1 1508 [(0, .ref K.2.2.2.2.2.2.2.2.1), (1, .ref (K.2.2.2.2.2.2.2.2.2.2.1.1 0)), (2, .ref (K.2.2.2.2.2.2.2.2.2.2.2.1 0)), (3, .int x3)] []) : yX K SX SM 244 [(0, .ref K.2.2.2.2.2.2.2.2.1), (1, .ref (K.2.2.2.2.2.2.2.2.2.2.1.1 0)), (2, .ref (K.2.2.2.2.2.2.2.2.2.2.2.1 0)), (3, .int x3)] [] := by
  obtain ⟨r, SX1, SM1, hx, hm, hR1⟩ := hag SX SM  hR
  refine y_aload_n Y 1 dL_law_244 rfl rfl ?_
  refine y_callX (As := []) (rest := []) Y 0 (k_X10_fault Y.2.2.2.1 hx) gl_X10_fault rfl rfl rfl y_X10_fault ⟨Nat.le_of_ble_eq_true rfl, Nat.le_of_ble_eq_true rfl⟩ rfl rfl (Nat.le_of_ble_eq_true rfl) dL_law_245 ?_
  show yX K SX1 SM 248 _ [.int r]
  refine y_aload_n Y 2 dL_law_248 rfl rfl ?_
  refine y_callM (As := []) (rest := [.int r]) Y 0 (k_X11_fault Y.2.2.2.2.1 hm) gl_X11_fault rfl rfl rfl y_X11_fault ⟨Nat.le_of_ble_eq_true rfl, Nat.le_of_ble_eq_true rfl⟩ rfl rfl (Nat.le_of_ble_eq_true rfl) dL_law_249 ?_
  show yX K SX1 SM1 252 _ [.int r, .int r]
  refine y_same Y 1508 dL_law_252 (by decide) ?_
  exact kk _ _ hR1
set_option maxRecDepth 100000 in
set_option maxHeartbeats 4000000 in
theorem y_case3 {K : yK} {L : Nat} {xs : Nat → Int32} (Y : yAt K L xs) {R : zSt → zSt → Prop} (hag : ag_line R) {SX SM : zSt} (hR : R SX SM) {x3 : Int32} (i1 : vp_in (x3 + (1 : Int32)) L) (kk : ∀ SX1 SM1, R SX1 SM1 → yX K SX1 SM1 1508 [(0, .ref K.2.2.2.2.2.2.2.2.1), (1, .ref (K.2.2.2.2.2.2.2.2.2.2.1.1 0)), (2, .ref (K.2.2.2.2.2.2.2.2.2.2.2.1 0)), (3, .int x3)] []) : yX K SX SM 257 [(0, .ref K.2.2.2.2.2.2.2.2.1), (1, .ref (K.2.2.2.2.2.2.2.2.2.2.1.1 0)), (2, .ref (K.2.2.2.2.2.2.2.2.2.2.2.1 0)), (3, .int x3)] [] := by
  obtain ⟨r, SX1, SM1, hx, hm, hR1⟩ := hag SX SM (xs (x3 + (1 : Int32)).toNatClampNeg) hR
  refine y_aload_n Y 1 dL_law_257 rfl rfl ?_
  refine y_aload_n Y 0 dL_law_258 rfl rfl ?_
  refine y_iload_n Y 3 dL_law_259 rfl rfl ?_
  refine y_iconst Y (1 : Int32) dL_law_260 (by decide) ?_
  refine y_iadd Y dL_law_261 ?_
  refine y_sld Y rfl i1 dL_law_262 ?_
  refine y_callX (As := [.int (xs (x3 + (1 : Int32)).toNatClampNeg)]) (rest := []) Y 1 (k_X10_line Y.2.2.2.1 hx) gl_X10_line rfl rfl rfl y_X10_line ⟨Nat.le_of_ble_eq_true rfl, Nat.le_of_ble_eq_true rfl⟩ rfl rfl (Nat.le_of_ble_eq_true rfl) dL_law_263 ?_
  show yX K SX1 SM 266 _ [.int r]
  refine y_aload_n Y 2 dL_law_266 rfl rfl ?_
  refine y_aload_n Y 0 dL_law_267 rfl rfl ?_
  refine y_iload_n Y 3 dL_law_268 rfl rfl ?_
  refine y_iconst Y (1 : Int32) dL_law_269 (by decide) ?_
  refine y_iadd Y dL_law_270 ?_
  refine y_sld Y rfl i1 dL_law_271 ?_
  refine y_callM (As := [.int (xs (x3 + (1 : Int32)).toNatClampNeg)]) (rest := [.int r]) Y 1 (k_X11_line Y.2.2.2.2.1 hm) gl_X11_line rfl rfl rfl y_X11_line ⟨Nat.le_of_ble_eq_true rfl, Nat.le_of_ble_eq_true rfl⟩ rfl rfl (Nat.le_of_ble_eq_true rfl) dL_law_272 ?_
  show yX K SX1 SM1 275 _ [.int r, .int r]
  refine y_same Y 1508 dL_law_275 (by decide) ?_
  exact kk _ _ hR1
set_option maxRecDepth 100000 in
set_option maxHeartbeats 4000000 in
theorem y_case4 {K : yK} {L : Nat} {xs : Nat → Int32} (Y : yAt K L xs) {R : zSt → zSt → Prop} (hag : ag_waits R) {SX SM : zSt} (hR : R SX SM) {x3 : Int32} (i1 : vp_in (x3 + (1 : Int32)) L) (i2 : vp_in (x3 + (2 : Int32)) L) (kk : ∀ SX1 SM1, R SX1 SM1 → yX K SX1 SM1 1508 [(0, .ref K.2.2.2.2.2.2.2.2.1), (1, .ref (K.2.2.2.2.2.2.2.2.2.2.1.1 0)), (2, .ref (K.2.2.2.2.2.2.2.2.2.2.2.1 0)), (3, .int x3)] []) : yX K SX SM 280 [(0, .ref K.2.2.2.2.2.2.2.2.1), (1, .ref (K.2.2.2.2.2.2.2.2.2.2.1.1 0)), (2, .ref (K.2.2.2.2.2.2.2.2.2.2.2.1 0)), (3, .int x3)] [] := by
  obtain ⟨r, hx, hm⟩ := hag SX SM (xs (x3 + (1 : Int32)).toNatClampNeg) (xs (x3 + (2 : Int32)).toNatClampNeg) hR
  refine y_aload_n Y 1 dL_law_280 rfl rfl ?_
  refine y_aload_n Y 0 dL_law_281 rfl rfl ?_
  refine y_iload_n Y 3 dL_law_282 rfl rfl ?_
  refine y_iconst Y (1 : Int32) dL_law_283 (by decide) ?_
  refine y_iadd Y dL_law_284 ?_
  refine y_sld Y rfl i1 dL_law_285 ?_
  refine y_aload_n Y 0 dL_law_286 rfl rfl ?_
  refine y_iload_n Y 3 dL_law_287 rfl rfl ?_
  refine y_iconst Y (2 : Int32) dL_law_288 (by decide) ?_
  refine y_iadd Y dL_law_289 ?_
  refine y_sld Y rfl i2 dL_law_290 ?_
  refine y_callX (As := [.int (xs (x3 + (1 : Int32)).toNatClampNeg), .int (xs (x3 + (2 : Int32)).toNatClampNeg)]) (rest := []) Y 2 (k_X10_waits Y.2.2.2.1 hx) gl_X10_waits rfl rfl rfl y_X10_waits ⟨Nat.le_of_ble_eq_true rfl, Nat.le_of_ble_eq_true rfl⟩ rfl rfl (Nat.le_of_ble_eq_true rfl) dL_law_291 ?_
  show yX K SX SM 294 _ [.int r]
  refine y_aload_n Y 2 dL_law_294 rfl rfl ?_
  refine y_aload_n Y 0 dL_law_295 rfl rfl ?_
  refine y_iload_n Y 3 dL_law_296 rfl rfl ?_
  refine y_iconst Y (1 : Int32) dL_law_297 (by decide) ?_
  refine y_iadd Y dL_law_298 ?_
  refine y_sld Y rfl i1 dL_law_299 ?_
  refine y_aload_n Y 0 dL_law_300 rfl rfl ?_
  refine y_iload_n Y 3 dL_law_301 rfl rfl ?_
  refine y_iconst Y (2 : Int32) dL_law_302 (by decide) ?_
  refine y_iadd Y dL_law_303 ?_
  refine y_sld Y rfl i2 dL_law_304 ?_
  refine y_callM (As := [.int (xs (x3 + (1 : Int32)).toNatClampNeg), .int (xs (x3 + (2 : Int32)).toNatClampNeg)]) (rest := [.int r]) Y 2 (k_X11_waits Y.2.2.2.2.1 hm) gl_X11_waits rfl rfl rfl y_X11_waits ⟨Nat.le_of_ble_eq_true rfl, Nat.le_of_ble_eq_true rfl⟩ rfl rfl (Nat.le_of_ble_eq_true rfl) dL_law_305 ?_
  show yX K SX SM 308 _ [.int r, .int r]
  refine y_same Y 1508 dL_law_308 (by decide) ?_
  exact kk _ _ hR
set_option maxRecDepth 100000 in
set_option maxHeartbeats 4000000 in
theorem y_case5 {K : yK} {L : Nat} {xs : Nat → Int32} (Y : yAt K L xs) {R : zSt → zSt → Prop} (hag : ag_met R) {SX SM : zSt} (hR : R SX SM) {x3 : Int32} (i1 : vp_in (x3 + (1 : Int32)) L) (i2 : vp_in (x3 + (2 : Int32)) L) (kk : ∀ SX1 SM1, R SX1 SM1 → yX K SX1 SM1 1508 [(0, .ref K.2.2.2.2.2.2.2.2.1), (1, .ref (K.2.2.2.2.2.2.2.2.2.2.1.1 0)), (2, .ref (K.2.2.2.2.2.2.2.2.2.2.2.1 0)), (3, .int x3)] []) : yX K SX SM 313 [(0, .ref K.2.2.2.2.2.2.2.2.1), (1, .ref (K.2.2.2.2.2.2.2.2.2.2.1.1 0)), (2, .ref (K.2.2.2.2.2.2.2.2.2.2.2.1 0)), (3, .int x3)] [] := by
  obtain ⟨r, hx, hm⟩ := hag SX SM (xs (x3 + (1 : Int32)).toNatClampNeg) (xs (x3 + (2 : Int32)).toNatClampNeg) hR
  refine y_aload_n Y 1 dL_law_313 rfl rfl ?_
  refine y_aload_n Y 0 dL_law_314 rfl rfl ?_
  refine y_iload_n Y 3 dL_law_315 rfl rfl ?_
  refine y_iconst Y (1 : Int32) dL_law_316 (by decide) ?_
  refine y_iadd Y dL_law_317 ?_
  refine y_sld Y rfl i1 dL_law_318 ?_
  refine y_aload_n Y 0 dL_law_319 rfl rfl ?_
  refine y_iload_n Y 3 dL_law_320 rfl rfl ?_
  refine y_iconst Y (2 : Int32) dL_law_321 (by decide) ?_
  refine y_iadd Y dL_law_322 ?_
  refine y_sld Y rfl i2 dL_law_323 ?_
  refine y_callX (As := [.int (xs (x3 + (1 : Int32)).toNatClampNeg), .int (xs (x3 + (2 : Int32)).toNatClampNeg)]) (rest := []) Y 2 (k_X10_met Y.2.2.2.1 hx) gl_X10_met rfl rfl rfl y_X10_met ⟨Nat.le_of_ble_eq_true rfl, Nat.le_of_ble_eq_true rfl⟩ rfl rfl (Nat.le_of_ble_eq_true rfl) dL_law_324 ?_
  show yX K SX SM 327 _ [.int r]
  refine y_aload_n Y 2 dL_law_327 rfl rfl ?_
  refine y_aload_n Y 0 dL_law_328 rfl rfl ?_
  refine y_iload_n Y 3 dL_law_329 rfl rfl ?_
  refine y_iconst Y (1 : Int32) dL_law_330 (by decide) ?_
  refine y_iadd Y dL_law_331 ?_
  refine y_sld Y rfl i1 dL_law_332 ?_
  refine y_aload_n Y 0 dL_law_333 rfl rfl ?_
  refine y_iload_n Y 3 dL_law_334 rfl rfl ?_
  refine y_iconst Y (2 : Int32) dL_law_335 (by decide) ?_
  refine y_iadd Y dL_law_336 ?_
  refine y_sld Y rfl i2 dL_law_337 ?_
  refine y_callM (As := [.int (xs (x3 + (1 : Int32)).toNatClampNeg), .int (xs (x3 + (2 : Int32)).toNatClampNeg)]) (rest := [.int r]) Y 2 (k_X11_met Y.2.2.2.2.1 hm) gl_X11_met rfl rfl rfl y_X11_met ⟨Nat.le_of_ble_eq_true rfl, Nat.le_of_ble_eq_true rfl⟩ rfl rfl (Nat.le_of_ble_eq_true rfl) dL_law_338 ?_
  show yX K SX SM 341 _ [.int r, .int r]
  refine y_same Y 1508 dL_law_341 (by decide) ?_
  exact kk _ _ hR
set_option maxRecDepth 100000 in
set_option maxHeartbeats 4000000 in
theorem y_case6 {K : yK} {L : Nat} {xs : Nat → Int32} (Y : yAt K L xs) {R : zSt → zSt → Prop} (hag : ag_gaps R) {SX SM : zSt} (hR : R SX SM) {x3 : Int32} (i1 : vp_in (x3 + (1 : Int32)) L) (i2 : vp_in (x3 + (2 : Int32)) L) (i3 : vp_in (x3 + (3 : Int32)) L) (kk : ∀ SX1 SM1, R SX1 SM1 → yX K SX1 SM1 1508 [(0, .ref K.2.2.2.2.2.2.2.2.1), (1, .ref (K.2.2.2.2.2.2.2.2.2.2.1.1 0)), (2, .ref (K.2.2.2.2.2.2.2.2.2.2.2.1 0)), (3, .int x3)] []) : yX K SX SM 346 [(0, .ref K.2.2.2.2.2.2.2.2.1), (1, .ref (K.2.2.2.2.2.2.2.2.2.2.1.1 0)), (2, .ref (K.2.2.2.2.2.2.2.2.2.2.2.1 0)), (3, .int x3)] [] := by
  obtain ⟨r, hx, hm⟩ := hag SX SM (xs (x3 + (1 : Int32)).toNatClampNeg) (xs (x3 + (2 : Int32)).toNatClampNeg) (xs (x3 + (3 : Int32)).toNatClampNeg) hR
  refine y_aload_n Y 1 dL_law_346 rfl rfl ?_
  refine y_aload_n Y 0 dL_law_347 rfl rfl ?_
  refine y_iload_n Y 3 dL_law_348 rfl rfl ?_
  refine y_iconst Y (1 : Int32) dL_law_349 (by decide) ?_
  refine y_iadd Y dL_law_350 ?_
  refine y_sld Y rfl i1 dL_law_351 ?_
  refine y_aload_n Y 0 dL_law_352 rfl rfl ?_
  refine y_iload_n Y 3 dL_law_353 rfl rfl ?_
  refine y_iconst Y (2 : Int32) dL_law_354 (by decide) ?_
  refine y_iadd Y dL_law_355 ?_
  refine y_sld Y rfl i2 dL_law_356 ?_
  refine y_aload_n Y 0 dL_law_357 rfl rfl ?_
  refine y_iload_n Y 3 dL_law_358 rfl rfl ?_
  refine y_iconst Y (3 : Int32) dL_law_359 (by decide) ?_
  refine y_iadd Y dL_law_360 ?_
  refine y_sld Y rfl i3 dL_law_361 ?_
  refine y_callX (As := [.int (xs (x3 + (1 : Int32)).toNatClampNeg), .int (xs (x3 + (2 : Int32)).toNatClampNeg), .int (xs (x3 + (3 : Int32)).toNatClampNeg)]) (rest := []) Y 3 (k_X10_gaps Y.2.2.2.1 hx) gl_X10_gaps rfl rfl rfl y_X10_gaps ⟨Nat.le_of_ble_eq_true rfl, Nat.le_of_ble_eq_true rfl⟩ rfl rfl (Nat.le_of_ble_eq_true rfl) dL_law_362 ?_
  show yX K SX SM 365 _ [.long r]
  refine y_aload_n Y 2 dL_law_365 rfl rfl ?_
  refine y_aload_n Y 0 dL_law_366 rfl rfl ?_
  refine y_iload_n Y 3 dL_law_367 rfl rfl ?_
  refine y_iconst Y (1 : Int32) dL_law_368 (by decide) ?_
  refine y_iadd Y dL_law_369 ?_
  refine y_sld Y rfl i1 dL_law_370 ?_
  refine y_aload_n Y 0 dL_law_371 rfl rfl ?_
  refine y_iload_n Y 3 dL_law_372 rfl rfl ?_
  refine y_iconst Y (2 : Int32) dL_law_373 (by decide) ?_
  refine y_iadd Y dL_law_374 ?_
  refine y_sld Y rfl i2 dL_law_375 ?_
  refine y_aload_n Y 0 dL_law_376 rfl rfl ?_
  refine y_iload_n Y 3 dL_law_377 rfl rfl ?_
  refine y_iconst Y (3 : Int32) dL_law_378 (by decide) ?_
  refine y_iadd Y dL_law_379 ?_
  refine y_sld Y rfl i3 dL_law_380 ?_
  refine y_callM (As := [.int (xs (x3 + (1 : Int32)).toNatClampNeg), .int (xs (x3 + (2 : Int32)).toNatClampNeg), .int (xs (x3 + (3 : Int32)).toNatClampNeg)]) (rest := [.long r]) Y 3 (k_X11_gaps Y.2.2.2.2.1 hm) gl_X11_gaps rfl rfl rfl y_X11_gaps ⟨Nat.le_of_ble_eq_true rfl, Nat.le_of_ble_eq_true rfl⟩ rfl rfl (Nat.le_of_ble_eq_true rfl) dL_law_381 ?_
  show yX K SX SM 384 _ [.long r, .long r]
  refine y_samel Y 1508 dL_law_384 dL_law_385 (by decide) ?_
  exact kk _ _ hR
set_option maxRecDepth 100000 in
set_option maxHeartbeats 4000000 in
theorem y_case7 {K : yK} {L : Nat} {xs : Nat → Int32} (Y : yAt K L xs) {R : zSt → zSt → Prop} (hag : ag_held R) {SX SM : zSt} (hR : R SX SM) {x3 : Int32} (i1 : vp_in (x3 + (1 : Int32)) L) (i2 : vp_in (x3 + (2 : Int32)) L) (i3 : vp_in (x3 + (3 : Int32)) L) (kk : ∀ SX1 SM1, R SX1 SM1 → yX K SX1 SM1 1508 [(0, .ref K.2.2.2.2.2.2.2.2.1), (1, .ref (K.2.2.2.2.2.2.2.2.2.2.1.1 0)), (2, .ref (K.2.2.2.2.2.2.2.2.2.2.2.1 0)), (3, .int x3)] []) : yX K SX SM 390 [(0, .ref K.2.2.2.2.2.2.2.2.1), (1, .ref (K.2.2.2.2.2.2.2.2.2.2.1.1 0)), (2, .ref (K.2.2.2.2.2.2.2.2.2.2.2.1 0)), (3, .int x3)] [] := by
  obtain ⟨r, SX1, SM1, hx, hm, hR1⟩ := hag SX SM (xs (x3 + (1 : Int32)).toNatClampNeg) (xs (x3 + (2 : Int32)).toNatClampNeg) (xs (x3 + (3 : Int32)).toNatClampNeg) hR
  refine y_aload_n Y 1 dL_law_390 rfl rfl ?_
  refine y_aload_n Y 0 dL_law_391 rfl rfl ?_
  refine y_iload_n Y 3 dL_law_392 rfl rfl ?_
  refine y_iconst Y (1 : Int32) dL_law_393 (by decide) ?_
  refine y_iadd Y dL_law_394 ?_
  refine y_sld Y rfl i1 dL_law_395 ?_
  refine y_aload_n Y 0 dL_law_396 rfl rfl ?_
  refine y_iload_n Y 3 dL_law_397 rfl rfl ?_
  refine y_iconst Y (2 : Int32) dL_law_398 (by decide) ?_
  refine y_iadd Y dL_law_399 ?_
  refine y_sld Y rfl i2 dL_law_400 ?_
  refine y_aload_n Y 0 dL_law_401 rfl rfl ?_
  refine y_iload_n Y 3 dL_law_402 rfl rfl ?_
  refine y_iconst Y (3 : Int32) dL_law_403 (by decide) ?_
  refine y_iadd Y dL_law_404 ?_
  refine y_sld Y rfl i3 dL_law_405 ?_
  refine y_callX (As := [.int (xs (x3 + (1 : Int32)).toNatClampNeg), .int (xs (x3 + (2 : Int32)).toNatClampNeg), .int (xs (x3 + (3 : Int32)).toNatClampNeg)]) (rest := []) Y 3 (k_X10_held Y.2.2.2.1 hx) gl_X10_held rfl rfl rfl y_X10_held ⟨Nat.le_of_ble_eq_true rfl, Nat.le_of_ble_eq_true rfl⟩ rfl rfl (Nat.le_of_ble_eq_true rfl) dL_law_406 ?_
  show yX K SX1 SM 409 _ [.int r]
  refine y_aload_n Y 2 dL_law_409 rfl rfl ?_
  refine y_aload_n Y 0 dL_law_410 rfl rfl ?_
  refine y_iload_n Y 3 dL_law_411 rfl rfl ?_
  refine y_iconst Y (1 : Int32) dL_law_412 (by decide) ?_
  refine y_iadd Y dL_law_413 ?_
  refine y_sld Y rfl i1 dL_law_414 ?_
  refine y_aload_n Y 0 dL_law_415 rfl rfl ?_
  refine y_iload_n Y 3 dL_law_416 rfl rfl ?_
  refine y_iconst Y (2 : Int32) dL_law_417 (by decide) ?_
  refine y_iadd Y dL_law_418 ?_
  refine y_sld Y rfl i2 dL_law_419 ?_
  refine y_aload_n Y 0 dL_law_420 rfl rfl ?_
  refine y_iload_n Y 3 dL_law_421 rfl rfl ?_
  refine y_iconst Y (3 : Int32) dL_law_422 (by decide) ?_
  refine y_iadd Y dL_law_423 ?_
  refine y_sld Y rfl i3 dL_law_424 ?_
  refine y_callM (As := [.int (xs (x3 + (1 : Int32)).toNatClampNeg), .int (xs (x3 + (2 : Int32)).toNatClampNeg), .int (xs (x3 + (3 : Int32)).toNatClampNeg)]) (rest := [.int r]) Y 3 (k_X11_held Y.2.2.2.2.1 hm) gl_X11_held rfl rfl rfl y_X11_held ⟨Nat.le_of_ble_eq_true rfl, Nat.le_of_ble_eq_true rfl⟩ rfl rfl (Nat.le_of_ble_eq_true rfl) dL_law_425 ?_
  show yX K SX1 SM1 428 _ [.int r, .int r]
  refine y_same Y 1508 dL_law_428 (by decide) ?_
  exact kk _ _ hR1
set_option maxRecDepth 100000 in
set_option maxHeartbeats 4000000 in
theorem y_case8 {K : yK} {L : Nat} {xs : Nat → Int32} (Y : yAt K L xs) {R : zSt → zSt → Prop} (hag : ag_asked R) {SX SM : zSt} (hR : R SX SM) {x3 : Int32} (i1 : vp_in (x3 + (1 : Int32)) L) (i2 : vp_in (x3 + (2 : Int32)) L) (kk : ∀ SX1 SM1, R SX1 SM1 → yX K SX1 SM1 1508 [(0, .ref K.2.2.2.2.2.2.2.2.1), (1, .ref (K.2.2.2.2.2.2.2.2.2.2.1.1 0)), (2, .ref (K.2.2.2.2.2.2.2.2.2.2.2.1 0)), (3, .int x3)] []) : yX K SX SM 433 [(0, .ref K.2.2.2.2.2.2.2.2.1), (1, .ref (K.2.2.2.2.2.2.2.2.2.2.1.1 0)), (2, .ref (K.2.2.2.2.2.2.2.2.2.2.2.1 0)), (3, .int x3)] [] := by
  obtain ⟨r, SX1, SM1, hx, hm, hR1⟩ := hag SX SM (xs (x3 + (1 : Int32)).toNatClampNeg) (xs (x3 + (2 : Int32)).toNatClampNeg) hR
  refine y_aload_n Y 1 dL_law_433 rfl rfl ?_
  refine y_aload_n Y 0 dL_law_434 rfl rfl ?_
  refine y_iload_n Y 3 dL_law_435 rfl rfl ?_
  refine y_iconst Y (1 : Int32) dL_law_436 (by decide) ?_
  refine y_iadd Y dL_law_437 ?_
  refine y_sld Y rfl i1 dL_law_438 ?_
  refine y_aload_n Y 0 dL_law_439 rfl rfl ?_
  refine y_iload_n Y 3 dL_law_440 rfl rfl ?_
  refine y_iconst Y (2 : Int32) dL_law_441 (by decide) ?_
  refine y_iadd Y dL_law_442 ?_
  refine y_sld Y rfl i2 dL_law_443 ?_
  refine y_callX (As := [.int (xs (x3 + (1 : Int32)).toNatClampNeg), .int (xs (x3 + (2 : Int32)).toNatClampNeg)]) (rest := []) Y 2 (k_X10_asked Y.2.2.2.1 hx) gl_X10_asked rfl rfl rfl y_X10_asked ⟨Nat.le_of_ble_eq_true rfl, Nat.le_of_ble_eq_true rfl⟩ rfl rfl (Nat.le_of_ble_eq_true rfl) dL_law_444 ?_
  show yX K SX1 SM 447 _ [.int r]
  refine y_aload_n Y 2 dL_law_447 rfl rfl ?_
  refine y_aload_n Y 0 dL_law_448 rfl rfl ?_
  refine y_iload_n Y 3 dL_law_449 rfl rfl ?_
  refine y_iconst Y (1 : Int32) dL_law_450 (by decide) ?_
  refine y_iadd Y dL_law_451 ?_
  refine y_sld Y rfl i1 dL_law_452 ?_
  refine y_aload_n Y 0 dL_law_453 rfl rfl ?_
  refine y_iload_n Y 3 dL_law_454 rfl rfl ?_
  refine y_iconst Y (2 : Int32) dL_law_455 (by decide) ?_
  refine y_iadd Y dL_law_456 ?_
  refine y_sld Y rfl i2 dL_law_457 ?_
  refine y_callM (As := [.int (xs (x3 + (1 : Int32)).toNatClampNeg), .int (xs (x3 + (2 : Int32)).toNatClampNeg)]) (rest := [.int r]) Y 2 (k_X11_asked Y.2.2.2.2.1 hm) gl_X11_asked rfl rfl rfl y_X11_asked ⟨Nat.le_of_ble_eq_true rfl, Nat.le_of_ble_eq_true rfl⟩ rfl rfl (Nat.le_of_ble_eq_true rfl) dL_law_458 ?_
  show yX K SX1 SM1 461 _ [.int r, .int r]
  refine y_same Y 1508 dL_law_461 (by decide) ?_
  exact kk _ _ hR1
set_option maxRecDepth 100000 in
set_option maxHeartbeats 4000000 in
theorem y_case9 {K : yK} {L : Nat} {xs : Nat → Int32} (Y : yAt K L xs) {R : zSt → zSt → Prop} (hag : ag_read R) {SX SM : zSt} (hR : R SX SM) {x3 : Int32} (i1 : vp_in (x3 + (1 : Int32)) L) (i2 : vp_in (x3 + (2 : Int32)) L) (kk : ∀ SX1 SM1, R SX1 SM1 → yX K SX1 SM1 1508 [(0, .ref K.2.2.2.2.2.2.2.2.1), (1, .ref (K.2.2.2.2.2.2.2.2.2.2.1.1 0)), (2, .ref (K.2.2.2.2.2.2.2.2.2.2.2.1 0)), (3, .int x3)] []) : yX K SX SM 466 [(0, .ref K.2.2.2.2.2.2.2.2.1), (1, .ref (K.2.2.2.2.2.2.2.2.2.2.1.1 0)), (2, .ref (K.2.2.2.2.2.2.2.2.2.2.2.1 0)), (3, .int x3)] [] := by
  obtain ⟨r, SX1, SM1, hx, hm, hR1⟩ := hag SX SM (xs (x3 + (1 : Int32)).toNatClampNeg) (xs (x3 + (2 : Int32)).toNatClampNeg) hR
  refine y_aload_n Y 1 dL_law_466 rfl rfl ?_
  refine y_aload_n Y 0 dL_law_467 rfl rfl ?_
  refine y_iload_n Y 3 dL_law_468 rfl rfl ?_
  refine y_iconst Y (1 : Int32) dL_law_469 (by decide) ?_
  refine y_iadd Y dL_law_470 ?_
  refine y_sld Y rfl i1 dL_law_471 ?_
  refine y_aload_n Y 0 dL_law_472 rfl rfl ?_
  refine y_iload_n Y 3 dL_law_473 rfl rfl ?_
  refine y_iconst Y (2 : Int32) dL_law_474 (by decide) ?_
  refine y_iadd Y dL_law_475 ?_
  refine y_sld Y rfl i2 dL_law_476 ?_
  refine y_callX (As := [.int (xs (x3 + (1 : Int32)).toNatClampNeg), .int (xs (x3 + (2 : Int32)).toNatClampNeg)]) (rest := []) Y 2 (k_X10_read Y.2.2.2.1 hx) gl_X10_read rfl rfl rfl y_X10_read ⟨Nat.le_of_ble_eq_true rfl, Nat.le_of_ble_eq_true rfl⟩ rfl rfl (Nat.le_of_ble_eq_true rfl) dL_law_477 ?_
  show yX K SX1 SM 480 _ [.int r]
  refine y_aload_n Y 2 dL_law_480 rfl rfl ?_
  refine y_aload_n Y 0 dL_law_481 rfl rfl ?_
  refine y_iload_n Y 3 dL_law_482 rfl rfl ?_
  refine y_iconst Y (1 : Int32) dL_law_483 (by decide) ?_
  refine y_iadd Y dL_law_484 ?_
  refine y_sld Y rfl i1 dL_law_485 ?_
  refine y_aload_n Y 0 dL_law_486 rfl rfl ?_
  refine y_iload_n Y 3 dL_law_487 rfl rfl ?_
  refine y_iconst Y (2 : Int32) dL_law_488 (by decide) ?_
  refine y_iadd Y dL_law_489 ?_
  refine y_sld Y rfl i2 dL_law_490 ?_
  refine y_callM (As := [.int (xs (x3 + (1 : Int32)).toNatClampNeg), .int (xs (x3 + (2 : Int32)).toNatClampNeg)]) (rest := [.int r]) Y 2 (k_X11_read Y.2.2.2.2.1 hm) gl_X11_read rfl rfl rfl y_X11_read ⟨Nat.le_of_ble_eq_true rfl, Nat.le_of_ble_eq_true rfl⟩ rfl rfl (Nat.le_of_ble_eq_true rfl) dL_law_491 ?_
  show yX K SX1 SM1 494 _ [.int r, .int r]
  refine y_same Y 1508 dL_law_494 (by decide) ?_
  exact kk _ _ hR1
set_option maxRecDepth 100000 in
set_option maxHeartbeats 4000000 in
theorem y_case10 {K : yK} {L : Nat} {xs : Nat → Int32} (Y : yAt K L xs) {R : zSt → zSt → Prop} (hag : ag_takeBack R) {SX SM : zSt} (hR : R SX SM) {x3 : Int32} (i1 : vp_in (x3 + (1 : Int32)) L) (i2 : vp_in (x3 + (2 : Int32)) L) (kk : ∀ SX1 SM1, R SX1 SM1 → yX K SX1 SM1 1508 [(0, .ref K.2.2.2.2.2.2.2.2.1), (1, .ref (K.2.2.2.2.2.2.2.2.2.2.1.1 0)), (2, .ref (K.2.2.2.2.2.2.2.2.2.2.2.1 0)), (3, .int x3)] []) : yX K SX SM 499 [(0, .ref K.2.2.2.2.2.2.2.2.1), (1, .ref (K.2.2.2.2.2.2.2.2.2.2.1.1 0)), (2, .ref (K.2.2.2.2.2.2.2.2.2.2.2.1 0)), (3, .int x3)] [] := by
  obtain ⟨r, SX1, SM1, hx, hm, hR1⟩ := hag SX SM (xs (x3 + (1 : Int32)).toNatClampNeg) (xs (x3 + (2 : Int32)).toNatClampNeg) hR
  refine y_aload_n Y 1 dL_law_499 rfl rfl ?_
  refine y_aload_n Y 0 dL_law_500 rfl rfl ?_
  refine y_iload_n Y 3 dL_law_501 rfl rfl ?_
  refine y_iconst Y (1 : Int32) dL_law_502 (by decide) ?_
  refine y_iadd Y dL_law_503 ?_
  refine y_sld Y rfl i1 dL_law_504 ?_
  refine y_aload_n Y 0 dL_law_505 rfl rfl ?_
  refine y_iload_n Y 3 dL_law_506 rfl rfl ?_
  refine y_iconst Y (2 : Int32) dL_law_507 (by decide) ?_
  refine y_iadd Y dL_law_508 ?_
  refine y_sld Y rfl i2 dL_law_509 ?_
  refine y_callX (As := [.int (xs (x3 + (1 : Int32)).toNatClampNeg), .int (xs (x3 + (2 : Int32)).toNatClampNeg)]) (rest := []) Y 2 (k_X10_takeBack Y.2.2.2.1 hx) gl_X10_takeBack rfl rfl rfl y_X10_takeBack ⟨Nat.le_of_ble_eq_true rfl, Nat.le_of_ble_eq_true rfl⟩ rfl rfl (Nat.le_of_ble_eq_true rfl) dL_law_510 ?_
  show yX K SX1 SM 513 _ [.int r]
  refine y_aload_n Y 2 dL_law_513 rfl rfl ?_
  refine y_aload_n Y 0 dL_law_514 rfl rfl ?_
  refine y_iload_n Y 3 dL_law_515 rfl rfl ?_
  refine y_iconst Y (1 : Int32) dL_law_516 (by decide) ?_
  refine y_iadd Y dL_law_517 ?_
  refine y_sld Y rfl i1 dL_law_518 ?_
  refine y_aload_n Y 0 dL_law_519 rfl rfl ?_
  refine y_iload_n Y 3 dL_law_520 rfl rfl ?_
  refine y_iconst Y (2 : Int32) dL_law_521 (by decide) ?_
  refine y_iadd Y dL_law_522 ?_
  refine y_sld Y rfl i2 dL_law_523 ?_
  refine y_callM (As := [.int (xs (x3 + (1 : Int32)).toNatClampNeg), .int (xs (x3 + (2 : Int32)).toNatClampNeg)]) (rest := [.int r]) Y 2 (k_X11_takeBack Y.2.2.2.2.1 hm) gl_X11_takeBack rfl rfl rfl y_X11_takeBack ⟨Nat.le_of_ble_eq_true rfl, Nat.le_of_ble_eq_true rfl⟩ rfl rfl (Nat.le_of_ble_eq_true rfl) dL_law_524 ?_
  show yX K SX1 SM1 527 _ [.int r, .int r]
  refine y_same Y 1508 dL_law_527 (by decide) ?_
  exact kk _ _ hR1
set_option maxRecDepth 100000 in
set_option maxHeartbeats 4000000 in
theorem y_case11 {K : yK} {L : Nat} {xs : Nat → Int32} (Y : yAt K L xs) {R : zSt → zSt → Prop} (hag : ag_asOf R) {SX SM : zSt} (hR : R SX SM) {x3 : Int32} (i1 : vp_in (x3 + (1 : Int32)) L) (kk : ∀ SX1 SM1, R SX1 SM1 → yX K SX1 SM1 1508 [(0, .ref K.2.2.2.2.2.2.2.2.1), (1, .ref (K.2.2.2.2.2.2.2.2.2.2.1.1 0)), (2, .ref (K.2.2.2.2.2.2.2.2.2.2.2.1 0)), (3, .int x3)] []) : yX K SX SM 532 [(0, .ref K.2.2.2.2.2.2.2.2.1), (1, .ref (K.2.2.2.2.2.2.2.2.2.2.1.1 0)), (2, .ref (K.2.2.2.2.2.2.2.2.2.2.2.1 0)), (3, .int x3)] [] := by
  obtain ⟨r, SX1, SM1, hx, hm, hR1⟩ := hag SX SM (xs (x3 + (1 : Int32)).toNatClampNeg) hR
  refine y_aload_n Y 1 dL_law_532 rfl rfl ?_
  refine y_aload_n Y 0 dL_law_533 rfl rfl ?_
  refine y_iload_n Y 3 dL_law_534 rfl rfl ?_
  refine y_iconst Y (1 : Int32) dL_law_535 (by decide) ?_
  refine y_iadd Y dL_law_536 ?_
  refine y_sld Y rfl i1 dL_law_537 ?_
  refine y_callX (As := [.int (xs (x3 + (1 : Int32)).toNatClampNeg)]) (rest := []) Y 1 (k_X10_asOf Y.2.2.2.1 hx) gl_X10_asOf rfl rfl rfl y_X10_asOf ⟨Nat.le_of_ble_eq_true rfl, Nat.le_of_ble_eq_true rfl⟩ rfl rfl (Nat.le_of_ble_eq_true rfl) dL_law_538 ?_
  show yX K SX1 SM 541 _ [.int r]
  refine y_aload_n Y 2 dL_law_541 rfl rfl ?_
  refine y_aload_n Y 0 dL_law_542 rfl rfl ?_
  refine y_iload_n Y 3 dL_law_543 rfl rfl ?_
  refine y_iconst Y (1 : Int32) dL_law_544 (by decide) ?_
  refine y_iadd Y dL_law_545 ?_
  refine y_sld Y rfl i1 dL_law_546 ?_
  refine y_callM (As := [.int (xs (x3 + (1 : Int32)).toNatClampNeg)]) (rest := [.int r]) Y 1 (k_X11_asOf Y.2.2.2.2.1 hm) gl_X11_asOf rfl rfl rfl y_X11_asOf ⟨Nat.le_of_ble_eq_true rfl, Nat.le_of_ble_eq_true rfl⟩ rfl rfl (Nat.le_of_ble_eq_true rfl) dL_law_547 ?_
  show yX K SX1 SM1 550 _ [.int r, .int r]
  refine y_same Y 1508 dL_law_550 (by decide) ?_
  exact kk _ _ hR1
set_option maxRecDepth 100000 in
set_option maxHeartbeats 4000000 in
theorem y_case12 {K : yK} {L : Nat} {xs : Nat → Int32} (Y : yAt K L xs) {R : zSt → zSt → Prop} (hag : ag_said R) {SX SM : zSt} (hR : R SX SM) {x3 : Int32} (i1 : vp_in (x3 + (1 : Int32)) L) (kk : ∀ SX1 SM1, R SX1 SM1 → yX K SX1 SM1 1508 [(0, .ref K.2.2.2.2.2.2.2.2.1), (1, .ref (K.2.2.2.2.2.2.2.2.2.2.1.1 0)), (2, .ref (K.2.2.2.2.2.2.2.2.2.2.2.1 0)), (3, .int x3)] []) : yX K SX SM 555 [(0, .ref K.2.2.2.2.2.2.2.2.1), (1, .ref (K.2.2.2.2.2.2.2.2.2.2.1.1 0)), (2, .ref (K.2.2.2.2.2.2.2.2.2.2.2.1 0)), (3, .int x3)] [] := by
  obtain ⟨r, hx, hm⟩ := hag SX SM (xs (x3 + (1 : Int32)).toNatClampNeg) hR
  refine y_aload_n Y 1 dL_law_555 rfl rfl ?_
  refine y_aload_n Y 0 dL_law_556 rfl rfl ?_
  refine y_iload_n Y 3 dL_law_557 rfl rfl ?_
  refine y_iconst Y (1 : Int32) dL_law_558 (by decide) ?_
  refine y_iadd Y dL_law_559 ?_
  refine y_sld Y rfl i1 dL_law_560 ?_
  refine y_callX (As := [.int (xs (x3 + (1 : Int32)).toNatClampNeg)]) (rest := []) Y 1 (k_X10_said Y.2.2.2.1 hx) gl_X10_said rfl rfl rfl y_X10_said ⟨Nat.le_of_ble_eq_true rfl, Nat.le_of_ble_eq_true rfl⟩ rfl rfl (Nat.le_of_ble_eq_true rfl) dL_law_561 ?_
  show yX K SX SM 564 _ [.int r]
  refine y_aload_n Y 2 dL_law_564 rfl rfl ?_
  refine y_aload_n Y 0 dL_law_565 rfl rfl ?_
  refine y_iload_n Y 3 dL_law_566 rfl rfl ?_
  refine y_iconst Y (1 : Int32) dL_law_567 (by decide) ?_
  refine y_iadd Y dL_law_568 ?_
  refine y_sld Y rfl i1 dL_law_569 ?_
  refine y_callM (As := [.int (xs (x3 + (1 : Int32)).toNatClampNeg)]) (rest := [.int r]) Y 1 (k_X11_said Y.2.2.2.2.1 hm) gl_X11_said rfl rfl rfl y_X11_said ⟨Nat.le_of_ble_eq_true rfl, Nat.le_of_ble_eq_true rfl⟩ rfl rfl (Nat.le_of_ble_eq_true rfl) dL_law_570 ?_
  show yX K SX SM 573 _ [.int r, .int r]
  refine y_same Y 1508 dL_law_573 (by decide) ?_
  exact kk _ _ hR
set_option maxRecDepth 100000 in
set_option maxHeartbeats 4000000 in
theorem y_case13 {K : yK} {L : Nat} {xs : Nat → Int32} (Y : yAt K L xs) {R : zSt → zSt → Prop} (hag : ag_share R) {SX SM : zSt} (hR : R SX SM) {x3 : Int32} (i1 : vp_in (x3 + (1 : Int32)) L) (i2 : vp_in (x3 + (2 : Int32)) L) (i3 : vp_in (x3 + (3 : Int32)) L) (kk : ∀ SX1 SM1, R SX1 SM1 → yX K SX1 SM1 1508 [(0, .ref K.2.2.2.2.2.2.2.2.1), (1, .ref (K.2.2.2.2.2.2.2.2.2.2.1.1 0)), (2, .ref (K.2.2.2.2.2.2.2.2.2.2.2.1 0)), (3, .int x3)] []) : yX K SX SM 578 [(0, .ref K.2.2.2.2.2.2.2.2.1), (1, .ref (K.2.2.2.2.2.2.2.2.2.2.1.1 0)), (2, .ref (K.2.2.2.2.2.2.2.2.2.2.2.1 0)), (3, .int x3)] [] := by
  obtain ⟨r, hx, hm⟩ := hag SX SM (xs (x3 + (1 : Int32)).toNatClampNeg) (xs (x3 + (2 : Int32)).toNatClampNeg) (xs (x3 + (3 : Int32)).toNatClampNeg) hR
  refine y_aload_n Y 1 dL_law_578 rfl rfl ?_
  refine y_aload_n Y 0 dL_law_579 rfl rfl ?_
  refine y_iload_n Y 3 dL_law_580 rfl rfl ?_
  refine y_iconst Y (1 : Int32) dL_law_581 (by decide) ?_
  refine y_iadd Y dL_law_582 ?_
  refine y_sld Y rfl i1 dL_law_583 ?_
  refine y_aload_n Y 0 dL_law_584 rfl rfl ?_
  refine y_iload_n Y 3 dL_law_585 rfl rfl ?_
  refine y_iconst Y (2 : Int32) dL_law_586 (by decide) ?_
  refine y_iadd Y dL_law_587 ?_
  refine y_sld Y rfl i2 dL_law_588 ?_
  refine y_aload_n Y 0 dL_law_589 rfl rfl ?_
  refine y_iload_n Y 3 dL_law_590 rfl rfl ?_
  refine y_iconst Y (3 : Int32) dL_law_591 (by decide) ?_
  refine y_iadd Y dL_law_592 ?_
  refine y_sld Y rfl i3 dL_law_593 ?_
  refine y_callX (As := [.int (xs (x3 + (1 : Int32)).toNatClampNeg), .int (xs (x3 + (2 : Int32)).toNatClampNeg), .int (xs (x3 + (3 : Int32)).toNatClampNeg)]) (rest := []) Y 3 (k_X10_share Y.2.2.2.1 hx) gl_X10_share rfl rfl rfl y_X10_share ⟨Nat.le_of_ble_eq_true rfl, Nat.le_of_ble_eq_true rfl⟩ rfl rfl (Nat.le_of_ble_eq_true rfl) dL_law_594 ?_
  show yX K SX SM 597 _ [.long r]
  refine y_aload_n Y 2 dL_law_597 rfl rfl ?_
  refine y_aload_n Y 0 dL_law_598 rfl rfl ?_
  refine y_iload_n Y 3 dL_law_599 rfl rfl ?_
  refine y_iconst Y (1 : Int32) dL_law_600 (by decide) ?_
  refine y_iadd Y dL_law_601 ?_
  refine y_sld Y rfl i1 dL_law_602 ?_
  refine y_aload_n Y 0 dL_law_603 rfl rfl ?_
  refine y_iload_n Y 3 dL_law_604 rfl rfl ?_
  refine y_iconst Y (2 : Int32) dL_law_605 (by decide) ?_
  refine y_iadd Y dL_law_606 ?_
  refine y_sld Y rfl i2 dL_law_607 ?_
  refine y_aload_n Y 0 dL_law_608 rfl rfl ?_
  refine y_iload_n Y 3 dL_law_609 rfl rfl ?_
  refine y_iconst Y (3 : Int32) dL_law_610 (by decide) ?_
  refine y_iadd Y dL_law_611 ?_
  refine y_sld Y rfl i3 dL_law_612 ?_
  refine y_callM (As := [.int (xs (x3 + (1 : Int32)).toNatClampNeg), .int (xs (x3 + (2 : Int32)).toNatClampNeg), .int (xs (x3 + (3 : Int32)).toNatClampNeg)]) (rest := [.long r]) Y 3 (k_X11_share Y.2.2.2.2.1 hm) gl_X11_share rfl rfl rfl y_X11_share ⟨Nat.le_of_ble_eq_true rfl, Nat.le_of_ble_eq_true rfl⟩ rfl rfl (Nat.le_of_ble_eq_true rfl) dL_law_613 ?_
  show yX K SX SM 616 _ [.long r, .long r]
  refine y_samel Y 1508 dL_law_616 dL_law_617 (by decide) ?_
  exact kk _ _ hR
set_option maxRecDepth 100000 in
set_option maxHeartbeats 4000000 in
theorem y_case14 {K : yK} {L : Nat} {xs : Nat → Int32} (Y : yAt K L xs) {R : zSt → zSt → Prop} (hag : ag_size R) {SX SM : zSt} (hR : R SX SM) {x3 : Int32} (i1 : vp_in (x3 + (1 : Int32)) L) (i2 : vp_in (x3 + (2 : Int32)) L) (kk : ∀ SX1 SM1, R SX1 SM1 → yX K SX1 SM1 1508 [(0, .ref K.2.2.2.2.2.2.2.2.1), (1, .ref (K.2.2.2.2.2.2.2.2.2.2.1.1 0)), (2, .ref (K.2.2.2.2.2.2.2.2.2.2.2.1 0)), (3, .int x3)] []) : yX K SX SM 622 [(0, .ref K.2.2.2.2.2.2.2.2.1), (1, .ref (K.2.2.2.2.2.2.2.2.2.2.1.1 0)), (2, .ref (K.2.2.2.2.2.2.2.2.2.2.2.1 0)), (3, .int x3)] [] := by
  obtain ⟨r, hx, hm⟩ := hag SX SM (xs (x3 + (1 : Int32)).toNatClampNeg) (xs (x3 + (2 : Int32)).toNatClampNeg) hR
  refine y_aload_n Y 1 dL_law_622 rfl rfl ?_
  refine y_aload_n Y 0 dL_law_623 rfl rfl ?_
  refine y_iload_n Y 3 dL_law_624 rfl rfl ?_
  refine y_iconst Y (1 : Int32) dL_law_625 (by decide) ?_
  refine y_iadd Y dL_law_626 ?_
  refine y_sld Y rfl i1 dL_law_627 ?_
  refine y_aload_n Y 0 dL_law_628 rfl rfl ?_
  refine y_iload_n Y 3 dL_law_629 rfl rfl ?_
  refine y_iconst Y (2 : Int32) dL_law_630 (by decide) ?_
  refine y_iadd Y dL_law_631 ?_
  refine y_sld Y rfl i2 dL_law_632 ?_
  refine y_callX (As := [.int (xs (x3 + (1 : Int32)).toNatClampNeg), .int (xs (x3 + (2 : Int32)).toNatClampNeg)]) (rest := []) Y 2 (k_X10_size Y.2.2.2.1 hx) gl_X10_size rfl rfl rfl y_X10_size ⟨Nat.le_of_ble_eq_true rfl, Nat.le_of_ble_eq_true rfl⟩ rfl rfl (Nat.le_of_ble_eq_true rfl) dL_law_633 ?_
  show yX K SX SM 636 _ [.long r]
  refine y_aload_n Y 2 dL_law_636 rfl rfl ?_
  refine y_aload_n Y 0 dL_law_637 rfl rfl ?_
  refine y_iload_n Y 3 dL_law_638 rfl rfl ?_
  refine y_iconst Y (1 : Int32) dL_law_639 (by decide) ?_
  refine y_iadd Y dL_law_640 ?_
  refine y_sld Y rfl i1 dL_law_641 ?_
  refine y_aload_n Y 0 dL_law_642 rfl rfl ?_
  refine y_iload_n Y 3 dL_law_643 rfl rfl ?_
  refine y_iconst Y (2 : Int32) dL_law_644 (by decide) ?_
  refine y_iadd Y dL_law_645 ?_
  refine y_sld Y rfl i2 dL_law_646 ?_
  refine y_callM (As := [.int (xs (x3 + (1 : Int32)).toNatClampNeg), .int (xs (x3 + (2 : Int32)).toNatClampNeg)]) (rest := [.long r]) Y 2 (k_X11_size Y.2.2.2.2.1 hm) gl_X11_size rfl rfl rfl y_X11_size ⟨Nat.le_of_ble_eq_true rfl, Nat.le_of_ble_eq_true rfl⟩ rfl rfl (Nat.le_of_ble_eq_true rfl) dL_law_647 ?_
  show yX K SX SM 650 _ [.long r, .long r]
  refine y_samel Y 1508 dL_law_650 dL_law_651 (by decide) ?_
  exact kk _ _ hR
set_option maxRecDepth 100000 in
set_option maxHeartbeats 4000000 in
theorem y_case15 {K : yK} {L : Nat} {xs : Nat → Int32} (Y : yAt K L xs) {R : zSt → zSt → Prop} (hag : ag_families R) {SX SM : zSt} (hR : R SX SM) {x3 : Int32} (i1 : vp_in (x3 + (1 : Int32)) L) (i2 : vp_in (x3 + (2 : Int32)) L) (i3 : vp_in (x3 + (3 : Int32)) L) (kk : ∀ SX1 SM1, R SX1 SM1 → yX K SX1 SM1 1508 [(0, .ref K.2.2.2.2.2.2.2.2.1), (1, .ref (K.2.2.2.2.2.2.2.2.2.2.1.1 0)), (2, .ref (K.2.2.2.2.2.2.2.2.2.2.2.1 0)), (3, .int x3)] []) : yX K SX SM 656 [(0, .ref K.2.2.2.2.2.2.2.2.1), (1, .ref (K.2.2.2.2.2.2.2.2.2.2.1.1 0)), (2, .ref (K.2.2.2.2.2.2.2.2.2.2.2.1 0)), (3, .int x3)] [] := by
  obtain ⟨r, SX1, SM1, hx, hm, hR1⟩ := hag SX SM (xs (x3 + (1 : Int32)).toNatClampNeg) (xs (x3 + (2 : Int32)).toNatClampNeg) (xs (x3 + (3 : Int32)).toNatClampNeg) hR
  refine y_aload_n Y 1 dL_law_656 rfl rfl ?_
  refine y_aload_n Y 0 dL_law_657 rfl rfl ?_
  refine y_iload_n Y 3 dL_law_658 rfl rfl ?_
  refine y_iconst Y (1 : Int32) dL_law_659 (by decide) ?_
  refine y_iadd Y dL_law_660 ?_
  refine y_sld Y rfl i1 dL_law_661 ?_
  refine y_aload_n Y 0 dL_law_662 rfl rfl ?_
  refine y_iload_n Y 3 dL_law_663 rfl rfl ?_
  refine y_iconst Y (2 : Int32) dL_law_664 (by decide) ?_
  refine y_iadd Y dL_law_665 ?_
  refine y_sld Y rfl i2 dL_law_666 ?_
  refine y_aload_n Y 0 dL_law_667 rfl rfl ?_
  refine y_iload_n Y 3 dL_law_668 rfl rfl ?_
  refine y_iconst Y (3 : Int32) dL_law_669 (by decide) ?_
  refine y_iadd Y dL_law_670 ?_
  refine y_sld Y rfl i3 dL_law_671 ?_
  refine y_callX (As := [.int (xs (x3 + (1 : Int32)).toNatClampNeg), .int (xs (x3 + (2 : Int32)).toNatClampNeg), .int (xs (x3 + (3 : Int32)).toNatClampNeg)]) (rest := []) Y 3 (k_X10_families Y.2.2.2.1 hx) gl_X10_families rfl rfl rfl y_X10_families ⟨Nat.le_of_ble_eq_true rfl, Nat.le_of_ble_eq_true rfl⟩ rfl rfl (Nat.le_of_ble_eq_true rfl) dL_law_672 ?_
  show yX K SX1 SM 675 _ [.int r]
  refine y_aload_n Y 2 dL_law_675 rfl rfl ?_
  refine y_aload_n Y 0 dL_law_676 rfl rfl ?_
  refine y_iload_n Y 3 dL_law_677 rfl rfl ?_
  refine y_iconst Y (1 : Int32) dL_law_678 (by decide) ?_
  refine y_iadd Y dL_law_679 ?_
  refine y_sld Y rfl i1 dL_law_680 ?_
  refine y_aload_n Y 0 dL_law_681 rfl rfl ?_
  refine y_iload_n Y 3 dL_law_682 rfl rfl ?_
  refine y_iconst Y (2 : Int32) dL_law_683 (by decide) ?_
  refine y_iadd Y dL_law_684 ?_
  refine y_sld Y rfl i2 dL_law_685 ?_
  refine y_aload_n Y 0 dL_law_686 rfl rfl ?_
  refine y_iload_n Y 3 dL_law_687 rfl rfl ?_
  refine y_iconst Y (3 : Int32) dL_law_688 (by decide) ?_
  refine y_iadd Y dL_law_689 ?_
  refine y_sld Y rfl i3 dL_law_690 ?_
  refine y_callM (As := [.int (xs (x3 + (1 : Int32)).toNatClampNeg), .int (xs (x3 + (2 : Int32)).toNatClampNeg), .int (xs (x3 + (3 : Int32)).toNatClampNeg)]) (rest := [.int r]) Y 3 (k_X11_families Y.2.2.2.2.1 hm) gl_X11_families rfl rfl rfl y_X11_families ⟨Nat.le_of_ble_eq_true rfl, Nat.le_of_ble_eq_true rfl⟩ rfl rfl (Nat.le_of_ble_eq_true rfl) dL_law_691 ?_
  show yX K SX1 SM1 694 _ [.int r, .int r]
  refine y_same Y 1508 dL_law_694 (by decide) ?_
  exact kk _ _ hR1
set_option maxRecDepth 100000 in
set_option maxHeartbeats 4000000 in
theorem y_case16 {K : yK} {L : Nat} {xs : Nat → Int32} (Y : yAt K L xs) {R : zSt → zSt → Prop} (hag : ag_chance R) {SX SM : zSt} (hR : R SX SM) {x3 : Int32} (i1 : vp_in (x3 + (1 : Int32)) L) (i2 : vp_in (x3 + (2 : Int32)) L) (kk : ∀ SX1 SM1, R SX1 SM1 → yX K SX1 SM1 1508 [(0, .ref K.2.2.2.2.2.2.2.2.1), (1, .ref (K.2.2.2.2.2.2.2.2.2.2.1.1 0)), (2, .ref (K.2.2.2.2.2.2.2.2.2.2.2.1 0)), (3, .int x3)] []) : yX K SX SM 699 [(0, .ref K.2.2.2.2.2.2.2.2.1), (1, .ref (K.2.2.2.2.2.2.2.2.2.2.1.1 0)), (2, .ref (K.2.2.2.2.2.2.2.2.2.2.2.1 0)), (3, .int x3)] [] := by
  obtain ⟨r, hx, hm⟩ := hag SX SM (xs (x3 + (1 : Int32)).toNatClampNeg) (xs (x3 + (2 : Int32)).toNatClampNeg) hR
  refine y_aload_n Y 1 dL_law_699 rfl rfl ?_
  refine y_aload_n Y 0 dL_law_700 rfl rfl ?_
  refine y_iload_n Y 3 dL_law_701 rfl rfl ?_
  refine y_iconst Y (1 : Int32) dL_law_702 (by decide) ?_
  refine y_iadd Y dL_law_703 ?_
  refine y_sld Y rfl i1 dL_law_704 ?_
  refine y_aload_n Y 0 dL_law_705 rfl rfl ?_
  refine y_iload_n Y 3 dL_law_706 rfl rfl ?_
  refine y_iconst Y (2 : Int32) dL_law_707 (by decide) ?_
  refine y_iadd Y dL_law_708 ?_
  refine y_sld Y rfl i2 dL_law_709 ?_
  refine y_callX (As := [.int (xs (x3 + (1 : Int32)).toNatClampNeg), .int (xs (x3 + (2 : Int32)).toNatClampNeg)]) (rest := []) Y 2 (k_X10_chance Y.2.2.2.1 hx) gl_X10_chance rfl rfl rfl y_X10_chance ⟨Nat.le_of_ble_eq_true rfl, Nat.le_of_ble_eq_true rfl⟩ rfl rfl (Nat.le_of_ble_eq_true rfl) dL_law_710 ?_
  show yX K SX SM 713 _ [.long r]
  refine y_aload_n Y 2 dL_law_713 rfl rfl ?_
  refine y_aload_n Y 0 dL_law_714 rfl rfl ?_
  refine y_iload_n Y 3 dL_law_715 rfl rfl ?_
  refine y_iconst Y (1 : Int32) dL_law_716 (by decide) ?_
  refine y_iadd Y dL_law_717 ?_
  refine y_sld Y rfl i1 dL_law_718 ?_
  refine y_aload_n Y 0 dL_law_719 rfl rfl ?_
  refine y_iload_n Y 3 dL_law_720 rfl rfl ?_
  refine y_iconst Y (2 : Int32) dL_law_721 (by decide) ?_
  refine y_iadd Y dL_law_722 ?_
  refine y_sld Y rfl i2 dL_law_723 ?_
  refine y_callM (As := [.int (xs (x3 + (1 : Int32)).toNatClampNeg), .int (xs (x3 + (2 : Int32)).toNatClampNeg)]) (rest := [.long r]) Y 2 (k_X11_chance Y.2.2.2.2.1 hm) gl_X11_chance rfl rfl rfl y_X11_chance ⟨Nat.le_of_ble_eq_true rfl, Nat.le_of_ble_eq_true rfl⟩ rfl rfl (Nat.le_of_ble_eq_true rfl) dL_law_724 ?_
  show yX K SX SM 727 _ [.long r, .long r]
  refine y_samel Y 1508 dL_law_727 dL_law_728 (by decide) ?_
  exact kk _ _ hR
set_option maxRecDepth 100000 in
set_option maxHeartbeats 4000000 in
theorem y_case17 {K : yK} {L : Nat} {xs : Nat → Int32} (Y : yAt K L xs) {R : zSt → zSt → Prop} (hag : ag_likeliest R) {SX SM : zSt} (hR : R SX SM) {x3 : Int32}  (kk : ∀ SX1 SM1, R SX1 SM1 → yX K SX1 SM1 1508 [(0, .ref K.2.2.2.2.2.2.2.2.1), (1, .ref (K.2.2.2.2.2.2.2.2.2.2.1.1 0)), (2, .ref (K.2.2.2.2.2.2.2.2.2.2.2.1 0)), (3, .int x3)] []) : yX K SX SM 733 [(0, .ref K.2.2.2.2.2.2.2.2.1), (1, .ref (K.2.2.2.2.2.2.2.2.2.2.1.1 0)), (2, .ref (K.2.2.2.2.2.2.2.2.2.2.2.1 0)), (3, .int x3)] [] := by
  obtain ⟨r, hx, hm⟩ := hag SX SM  hR
  refine y_aload_n Y 1 dL_law_733 rfl rfl ?_
  refine y_callX (As := []) (rest := []) Y 0 (k_X10_likeliest Y.2.2.2.1 hx) gl_X10_likeliest rfl rfl rfl y_X10_likeliest ⟨Nat.le_of_ble_eq_true rfl, Nat.le_of_ble_eq_true rfl⟩ rfl rfl (Nat.le_of_ble_eq_true rfl) dL_law_734 ?_
  show yX K SX SM 737 _ [.int r]
  refine y_aload_n Y 2 dL_law_737 rfl rfl ?_
  refine y_callM (As := []) (rest := [.int r]) Y 0 (k_X11_likeliest Y.2.2.2.2.1 hm) gl_X11_likeliest rfl rfl rfl y_X11_likeliest ⟨Nat.le_of_ble_eq_true rfl, Nat.le_of_ble_eq_true rfl⟩ rfl rfl (Nat.le_of_ble_eq_true rfl) dL_law_738 ?_
  show yX K SX SM 741 _ [.int r, .int r]
  refine y_same Y 1508 dL_law_741 (by decide) ?_
  exact kk _ _ hR
set_option maxRecDepth 100000 in
set_option maxHeartbeats 4000000 in
theorem y_case18 {K : yK} {L : Nat} {xs : Nat → Int32} (Y : yAt K L xs) {R : zSt → zSt → Prop} (hag : ag_stay R) {SX SM : zSt} (hR : R SX SM) {x3 : Int32} (i1 : vp_in (x3 + (1 : Int32)) L) (i2 : vp_in (x3 + (2 : Int32)) L) (kk : ∀ SX1 SM1, R SX1 SM1 → yX K SX1 SM1 1508 [(0, .ref K.2.2.2.2.2.2.2.2.1), (1, .ref (K.2.2.2.2.2.2.2.2.2.2.1.1 0)), (2, .ref (K.2.2.2.2.2.2.2.2.2.2.2.1 0)), (3, .int x3)] []) : yX K SX SM 746 [(0, .ref K.2.2.2.2.2.2.2.2.1), (1, .ref (K.2.2.2.2.2.2.2.2.2.2.1.1 0)), (2, .ref (K.2.2.2.2.2.2.2.2.2.2.2.1 0)), (3, .int x3)] [] := by
  obtain ⟨r, SX1, SM1, hx, hm, hR1⟩ := hag SX SM (xs (x3 + (1 : Int32)).toNatClampNeg) (xs (x3 + (2 : Int32)).toNatClampNeg) hR
  refine y_aload_n Y 1 dL_law_746 rfl rfl ?_
  refine y_aload_n Y 0 dL_law_747 rfl rfl ?_
  refine y_iload_n Y 3 dL_law_748 rfl rfl ?_
  refine y_iconst Y (1 : Int32) dL_law_749 (by decide) ?_
  refine y_iadd Y dL_law_750 ?_
  refine y_sld Y rfl i1 dL_law_751 ?_
  refine y_aload_n Y 0 dL_law_752 rfl rfl ?_
  refine y_iload_n Y 3 dL_law_753 rfl rfl ?_
  refine y_iconst Y (2 : Int32) dL_law_754 (by decide) ?_
  refine y_iadd Y dL_law_755 ?_
  refine y_sld Y rfl i2 dL_law_756 ?_
  refine y_callX (As := [.int (xs (x3 + (1 : Int32)).toNatClampNeg), .int (xs (x3 + (2 : Int32)).toNatClampNeg)]) (rest := []) Y 2 (k_X10_stay Y.2.2.2.1 hx) gl_X10_stay rfl rfl rfl y_X10_stay ⟨Nat.le_of_ble_eq_true rfl, Nat.le_of_ble_eq_true rfl⟩ rfl rfl (Nat.le_of_ble_eq_true rfl) dL_law_757 ?_
  show yX K SX1 SM 760 _ [.int r]
  refine y_aload_n Y 2 dL_law_760 rfl rfl ?_
  refine y_aload_n Y 0 dL_law_761 rfl rfl ?_
  refine y_iload_n Y 3 dL_law_762 rfl rfl ?_
  refine y_iconst Y (1 : Int32) dL_law_763 (by decide) ?_
  refine y_iadd Y dL_law_764 ?_
  refine y_sld Y rfl i1 dL_law_765 ?_
  refine y_aload_n Y 0 dL_law_766 rfl rfl ?_
  refine y_iload_n Y 3 dL_law_767 rfl rfl ?_
  refine y_iconst Y (2 : Int32) dL_law_768 (by decide) ?_
  refine y_iadd Y dL_law_769 ?_
  refine y_sld Y rfl i2 dL_law_770 ?_
  refine y_callM (As := [.int (xs (x3 + (1 : Int32)).toNatClampNeg), .int (xs (x3 + (2 : Int32)).toNatClampNeg)]) (rest := [.int r]) Y 2 (k_X11_stay Y.2.2.2.2.1 hm) gl_X11_stay rfl rfl rfl y_X11_stay ⟨Nat.le_of_ble_eq_true rfl, Nat.le_of_ble_eq_true rfl⟩ rfl rfl (Nat.le_of_ble_eq_true rfl) dL_law_771 ?_
  show yX K SX1 SM1 774 _ [.int r, .int r]
  refine y_same Y 1508 dL_law_774 (by decide) ?_
  exact kk _ _ hR1
set_option maxRecDepth 100000 in
set_option maxHeartbeats 4000000 in
theorem y_case19 {K : yK} {L : Nat} {xs : Nat → Int32} (Y : yAt K L xs) {R : zSt → zSt → Prop} (hag : ag_leaves R) {SX SM : zSt} (hR : R SX SM) {x3 : Int32} (i1 : vp_in (x3 + (1 : Int32)) L) (i2 : vp_in (x3 + (2 : Int32)) L) (kk : ∀ SX1 SM1, R SX1 SM1 → yX K SX1 SM1 1508 [(0, .ref K.2.2.2.2.2.2.2.2.1), (1, .ref (K.2.2.2.2.2.2.2.2.2.2.1.1 0)), (2, .ref (K.2.2.2.2.2.2.2.2.2.2.2.1 0)), (3, .int x3)] []) : yX K SX SM 779 [(0, .ref K.2.2.2.2.2.2.2.2.1), (1, .ref (K.2.2.2.2.2.2.2.2.2.2.1.1 0)), (2, .ref (K.2.2.2.2.2.2.2.2.2.2.2.1 0)), (3, .int x3)] [] := by
  obtain ⟨r, SX1, SM1, hx, hm, hR1⟩ := hag SX SM (xs (x3 + (1 : Int32)).toNatClampNeg) (xs (x3 + (2 : Int32)).toNatClampNeg) hR
  refine y_aload_n Y 1 dL_law_779 rfl rfl ?_
  refine y_aload_n Y 0 dL_law_780 rfl rfl ?_
  refine y_iload_n Y 3 dL_law_781 rfl rfl ?_
  refine y_iconst Y (1 : Int32) dL_law_782 (by decide) ?_
  refine y_iadd Y dL_law_783 ?_
  refine y_sld Y rfl i1 dL_law_784 ?_
  refine y_aload_n Y 0 dL_law_785 rfl rfl ?_
  refine y_iload_n Y 3 dL_law_786 rfl rfl ?_
  refine y_iconst Y (2 : Int32) dL_law_787 (by decide) ?_
  refine y_iadd Y dL_law_788 ?_
  refine y_sld Y rfl i2 dL_law_789 ?_
  refine y_callX (As := [.int (xs (x3 + (1 : Int32)).toNatClampNeg), .int (xs (x3 + (2 : Int32)).toNatClampNeg)]) (rest := []) Y 2 (k_X10_leaves Y.2.2.2.1 hx) gl_X10_leaves rfl rfl rfl y_X10_leaves ⟨Nat.le_of_ble_eq_true rfl, Nat.le_of_ble_eq_true rfl⟩ rfl rfl (Nat.le_of_ble_eq_true rfl) dL_law_790 ?_
  show yX K SX1 SM 793 _ [.int r]
  refine y_aload_n Y 2 dL_law_793 rfl rfl ?_
  refine y_aload_n Y 0 dL_law_794 rfl rfl ?_
  refine y_iload_n Y 3 dL_law_795 rfl rfl ?_
  refine y_iconst Y (1 : Int32) dL_law_796 (by decide) ?_
  refine y_iadd Y dL_law_797 ?_
  refine y_sld Y rfl i1 dL_law_798 ?_
  refine y_aload_n Y 0 dL_law_799 rfl rfl ?_
  refine y_iload_n Y 3 dL_law_800 rfl rfl ?_
  refine y_iconst Y (2 : Int32) dL_law_801 (by decide) ?_
  refine y_iadd Y dL_law_802 ?_
  refine y_sld Y rfl i2 dL_law_803 ?_
  refine y_callM (As := [.int (xs (x3 + (1 : Int32)).toNatClampNeg), .int (xs (x3 + (2 : Int32)).toNatClampNeg)]) (rest := [.int r]) Y 2 (k_X11_leaves Y.2.2.2.2.1 hm) gl_X11_leaves rfl rfl rfl y_X11_leaves ⟨Nat.le_of_ble_eq_true rfl, Nat.le_of_ble_eq_true rfl⟩ rfl rfl (Nat.le_of_ble_eq_true rfl) dL_law_804 ?_
  show yX K SX1 SM1 807 _ [.int r, .int r]
  refine y_same Y 1508 dL_law_807 (by decide) ?_
  exact kk _ _ hR1
set_option maxRecDepth 100000 in
set_option maxHeartbeats 4000000 in
theorem y_case20 {K : yK} {L : Nat} {xs : Nat → Int32} (Y : yAt K L xs) {R : zSt → zSt → Prop} (hag : ag_ward R) {SX SM : zSt} (hR : R SX SM) {x3 : Int32} (i1 : vp_in (x3 + (1 : Int32)) L) (i2 : vp_in (x3 + (2 : Int32)) L) (i3 : vp_in (x3 + (3 : Int32)) L) (kk : ∀ SX1 SM1, R SX1 SM1 → yX K SX1 SM1 1508 [(0, .ref K.2.2.2.2.2.2.2.2.1), (1, .ref (K.2.2.2.2.2.2.2.2.2.2.1.1 0)), (2, .ref (K.2.2.2.2.2.2.2.2.2.2.2.1 0)), (3, .int x3)] []) : yX K SX SM 812 [(0, .ref K.2.2.2.2.2.2.2.2.1), (1, .ref (K.2.2.2.2.2.2.2.2.2.2.1.1 0)), (2, .ref (K.2.2.2.2.2.2.2.2.2.2.2.1 0)), (3, .int x3)] [] := by
  obtain ⟨r, hx, hm⟩ := hag SX SM (xs (x3 + (1 : Int32)).toNatClampNeg) (xs (x3 + (2 : Int32)).toNatClampNeg) (xs (x3 + (3 : Int32)).toNatClampNeg) hR
  refine y_aload_n Y 1 dL_law_812 rfl rfl ?_
  refine y_aload_n Y 0 dL_law_813 rfl rfl ?_
  refine y_iload_n Y 3 dL_law_814 rfl rfl ?_
  refine y_iconst Y (1 : Int32) dL_law_815 (by decide) ?_
  refine y_iadd Y dL_law_816 ?_
  refine y_sld Y rfl i1 dL_law_817 ?_
  refine y_aload_n Y 0 dL_law_818 rfl rfl ?_
  refine y_iload_n Y 3 dL_law_819 rfl rfl ?_
  refine y_iconst Y (2 : Int32) dL_law_820 (by decide) ?_
  refine y_iadd Y dL_law_821 ?_
  refine y_sld Y rfl i2 dL_law_822 ?_
  refine y_aload_n Y 0 dL_law_823 rfl rfl ?_
  refine y_iload_n Y 3 dL_law_824 rfl rfl ?_
  refine y_iconst Y (3 : Int32) dL_law_825 (by decide) ?_
  refine y_iadd Y dL_law_826 ?_
  refine y_sld Y rfl i3 dL_law_827 ?_
  refine y_callX (As := [.int (xs (x3 + (1 : Int32)).toNatClampNeg), .int (xs (x3 + (2 : Int32)).toNatClampNeg), .int (xs (x3 + (3 : Int32)).toNatClampNeg)]) (rest := []) Y 3 (k_X10_ward Y.2.2.2.1 hx) gl_X10_ward rfl rfl rfl y_X10_ward ⟨Nat.le_of_ble_eq_true rfl, Nat.le_of_ble_eq_true rfl⟩ rfl rfl (Nat.le_of_ble_eq_true rfl) dL_law_828 ?_
  show yX K SX SM 831 _ [.int r]
  refine y_aload_n Y 2 dL_law_831 rfl rfl ?_
  refine y_aload_n Y 0 dL_law_832 rfl rfl ?_
  refine y_iload_n Y 3 dL_law_833 rfl rfl ?_
  refine y_iconst Y (1 : Int32) dL_law_834 (by decide) ?_
  refine y_iadd Y dL_law_835 ?_
  refine y_sld Y rfl i1 dL_law_836 ?_
  refine y_aload_n Y 0 dL_law_837 rfl rfl ?_
  refine y_iload_n Y 3 dL_law_838 rfl rfl ?_
  refine y_iconst Y (2 : Int32) dL_law_839 (by decide) ?_
  refine y_iadd Y dL_law_840 ?_
  refine y_sld Y rfl i2 dL_law_841 ?_
  refine y_aload_n Y 0 dL_law_842 rfl rfl ?_
  refine y_iload_n Y 3 dL_law_843 rfl rfl ?_
  refine y_iconst Y (3 : Int32) dL_law_844 (by decide) ?_
  refine y_iadd Y dL_law_845 ?_
  refine y_sld Y rfl i3 dL_law_846 ?_
  refine y_callM (As := [.int (xs (x3 + (1 : Int32)).toNatClampNeg), .int (xs (x3 + (2 : Int32)).toNatClampNeg), .int (xs (x3 + (3 : Int32)).toNatClampNeg)]) (rest := [.int r]) Y 3 (k_X11_ward Y.2.2.2.2.1 hm) gl_X11_ward rfl rfl rfl y_X11_ward ⟨Nat.le_of_ble_eq_true rfl, Nat.le_of_ble_eq_true rfl⟩ rfl rfl (Nat.le_of_ble_eq_true rfl) dL_law_847 ?_
  show yX K SX SM 850 _ [.int r, .int r]
  refine y_same Y 1508 dL_law_850 (by decide) ?_
  exact kk _ _ hR
set_option maxRecDepth 100000 in
set_option maxHeartbeats 4000000 in
theorem y_case21 {K : yK} {L : Nat} {xs : Nat → Int32} (Y : yAt K L xs) {R : zSt → zSt → Prop} (hag : ag_means R) {SX SM : zSt} (hR : R SX SM) {x3 : Int32} (i1 : vp_in (x3 + (1 : Int32)) L) (i2 : vp_in (x3 + (2 : Int32)) L) (i3 : vp_in (x3 + (3 : Int32)) L) (i4 : vp_in (x3 + (4 : Int32)) L) (kk : ∀ SX1 SM1, R SX1 SM1 → yX K SX1 SM1 1508 [(0, .ref K.2.2.2.2.2.2.2.2.1), (1, .ref (K.2.2.2.2.2.2.2.2.2.2.1.1 0)), (2, .ref (K.2.2.2.2.2.2.2.2.2.2.2.1 0)), (3, .int x3)] []) : yX K SX SM 855 [(0, .ref K.2.2.2.2.2.2.2.2.1), (1, .ref (K.2.2.2.2.2.2.2.2.2.2.1.1 0)), (2, .ref (K.2.2.2.2.2.2.2.2.2.2.2.1 0)), (3, .int x3)] [] := by
  obtain ⟨r, hx, hm⟩ := hag SX SM (xs (x3 + (1 : Int32)).toNatClampNeg) (xs (x3 + (2 : Int32)).toNatClampNeg) (xs (x3 + (3 : Int32)).toNatClampNeg) (xs (x3 + (4 : Int32)).toNatClampNeg) hR
  refine y_aload_n Y 1 dL_law_855 rfl rfl ?_
  refine y_aload_n Y 0 dL_law_856 rfl rfl ?_
  refine y_iload_n Y 3 dL_law_857 rfl rfl ?_
  refine y_iconst Y (1 : Int32) dL_law_858 (by decide) ?_
  refine y_iadd Y dL_law_859 ?_
  refine y_sld Y rfl i1 dL_law_860 ?_
  refine y_aload_n Y 0 dL_law_861 rfl rfl ?_
  refine y_iload_n Y 3 dL_law_862 rfl rfl ?_
  refine y_iconst Y (2 : Int32) dL_law_863 (by decide) ?_
  refine y_iadd Y dL_law_864 ?_
  refine y_sld Y rfl i2 dL_law_865 ?_
  refine y_aload_n Y 0 dL_law_866 rfl rfl ?_
  refine y_iload_n Y 3 dL_law_867 rfl rfl ?_
  refine y_iconst Y (3 : Int32) dL_law_868 (by decide) ?_
  refine y_iadd Y dL_law_869 ?_
  refine y_sld Y rfl i3 dL_law_870 ?_
  refine y_aload_n Y 0 dL_law_871 rfl rfl ?_
  refine y_iload_n Y 3 dL_law_872 rfl rfl ?_
  refine y_iconst Y (4 : Int32) dL_law_873 (by decide) ?_
  refine y_iadd Y dL_law_874 ?_
  refine y_sld Y rfl i4 dL_law_875 ?_
  refine y_callX (As := [.int (xs (x3 + (1 : Int32)).toNatClampNeg), .int (xs (x3 + (2 : Int32)).toNatClampNeg), .int (xs (x3 + (3 : Int32)).toNatClampNeg), .int (xs (x3 + (4 : Int32)).toNatClampNeg)]) (rest := []) Y 4 (k_X10_means Y.2.2.2.1 hx) gl_X10_means rfl rfl rfl y_X10_means ⟨Nat.le_of_ble_eq_true rfl, Nat.le_of_ble_eq_true rfl⟩ rfl rfl (Nat.le_of_ble_eq_true rfl) dL_law_876 ?_
  show yX K SX SM 879 _ [.long r]
  refine y_aload_n Y 2 dL_law_879 rfl rfl ?_
  refine y_aload_n Y 0 dL_law_880 rfl rfl ?_
  refine y_iload_n Y 3 dL_law_881 rfl rfl ?_
  refine y_iconst Y (1 : Int32) dL_law_882 (by decide) ?_
  refine y_iadd Y dL_law_883 ?_
  refine y_sld Y rfl i1 dL_law_884 ?_
  refine y_aload_n Y 0 dL_law_885 rfl rfl ?_
  refine y_iload_n Y 3 dL_law_886 rfl rfl ?_
  refine y_iconst Y (2 : Int32) dL_law_887 (by decide) ?_
  refine y_iadd Y dL_law_888 ?_
  refine y_sld Y rfl i2 dL_law_889 ?_
  refine y_aload_n Y 0 dL_law_890 rfl rfl ?_
  refine y_iload_n Y 3 dL_law_891 rfl rfl ?_
  refine y_iconst Y (3 : Int32) dL_law_892 (by decide) ?_
  refine y_iadd Y dL_law_893 ?_
  refine y_sld Y rfl i3 dL_law_894 ?_
  refine y_aload_n Y 0 dL_law_895 rfl rfl ?_
  refine y_iload_n Y 3 dL_law_896 rfl rfl ?_
  refine y_iconst Y (4 : Int32) dL_law_897 (by decide) ?_
  refine y_iadd Y dL_law_898 ?_
  refine y_sld Y rfl i4 dL_law_899 ?_
  refine y_callM (As := [.int (xs (x3 + (1 : Int32)).toNatClampNeg), .int (xs (x3 + (2 : Int32)).toNatClampNeg), .int (xs (x3 + (3 : Int32)).toNatClampNeg), .int (xs (x3 + (4 : Int32)).toNatClampNeg)]) (rest := [.long r]) Y 4 (k_X11_means Y.2.2.2.2.1 hm) gl_X11_means rfl rfl rfl y_X11_means ⟨Nat.le_of_ble_eq_true rfl, Nat.le_of_ble_eq_true rfl⟩ rfl rfl (Nat.le_of_ble_eq_true rfl) dL_law_900 ?_
  show yX K SX SM 903 _ [.long r, .long r]
  refine y_samel Y 1508 dL_law_903 dL_law_904 (by decide) ?_
  exact kk _ _ hR
set_option maxRecDepth 100000 in
set_option maxHeartbeats 4000000 in
theorem y_case22 {K : yK} {L : Nat} {xs : Nat → Int32} (Y : yAt K L xs) {R : zSt → zSt → Prop} (hag : ag_fullest R) {SX SM : zSt} (hR : R SX SM) {x3 : Int32} (i1 : vp_in (x3 + (1 : Int32)) L) (kk : ∀ SX1 SM1, R SX1 SM1 → yX K SX1 SM1 1508 [(0, .ref K.2.2.2.2.2.2.2.2.1), (1, .ref (K.2.2.2.2.2.2.2.2.2.2.1.1 0)), (2, .ref (K.2.2.2.2.2.2.2.2.2.2.2.1 0)), (3, .int x3)] []) : yX K SX SM 909 [(0, .ref K.2.2.2.2.2.2.2.2.1), (1, .ref (K.2.2.2.2.2.2.2.2.2.2.1.1 0)), (2, .ref (K.2.2.2.2.2.2.2.2.2.2.2.1 0)), (3, .int x3)] [] := by
  obtain ⟨r, hx, hm⟩ := hag SX SM (xs (x3 + (1 : Int32)).toNatClampNeg) hR
  refine y_aload_n Y 1 dL_law_909 rfl rfl ?_
  refine y_aload_n Y 0 dL_law_910 rfl rfl ?_
  refine y_iload_n Y 3 dL_law_911 rfl rfl ?_
  refine y_iconst Y (1 : Int32) dL_law_912 (by decide) ?_
  refine y_iadd Y dL_law_913 ?_
  refine y_sld Y rfl i1 dL_law_914 ?_
  refine y_callX (As := [.int (xs (x3 + (1 : Int32)).toNatClampNeg)]) (rest := []) Y 1 (k_X10_fullest Y.2.2.2.1 hx) gl_X10_fullest rfl rfl rfl y_X10_fullest ⟨Nat.le_of_ble_eq_true rfl, Nat.le_of_ble_eq_true rfl⟩ rfl rfl (Nat.le_of_ble_eq_true rfl) dL_law_915 ?_
  show yX K SX SM 918 _ [.int r]
  refine y_aload_n Y 2 dL_law_918 rfl rfl ?_
  refine y_aload_n Y 0 dL_law_919 rfl rfl ?_
  refine y_iload_n Y 3 dL_law_920 rfl rfl ?_
  refine y_iconst Y (1 : Int32) dL_law_921 (by decide) ?_
  refine y_iadd Y dL_law_922 ?_
  refine y_sld Y rfl i1 dL_law_923 ?_
  refine y_callM (As := [.int (xs (x3 + (1 : Int32)).toNatClampNeg)]) (rest := [.int r]) Y 1 (k_X11_fullest Y.2.2.2.2.1 hm) gl_X11_fullest rfl rfl rfl y_X11_fullest ⟨Nat.le_of_ble_eq_true rfl, Nat.le_of_ble_eq_true rfl⟩ rfl rfl (Nat.le_of_ble_eq_true rfl) dL_law_924 ?_
  show yX K SX SM 927 _ [.int r, .int r]
  refine y_same Y 1508 dL_law_927 (by decide) ?_
  exact kk _ _ hR
set_option maxRecDepth 100000 in
set_option maxHeartbeats 4000000 in
theorem y_case23 {K : yK} {L : Nat} {xs : Nat → Int32} (Y : yAt K L xs) {R : zSt → zSt → Prop} (hag : ag_friends R) {SX SM : zSt} (hR : R SX SM) {x3 : Int32} (i1 : vp_in (x3 + (1 : Int32)) L) (i2 : vp_in (x3 + (2 : Int32)) L) (i3 : vp_in (x3 + (3 : Int32)) L) (kk : ∀ SX1 SM1, R SX1 SM1 → yX K SX1 SM1 1508 [(0, .ref K.2.2.2.2.2.2.2.2.1), (1, .ref (K.2.2.2.2.2.2.2.2.2.2.1.1 0)), (2, .ref (K.2.2.2.2.2.2.2.2.2.2.2.1 0)), (3, .int x3)] []) : yX K SX SM 932 [(0, .ref K.2.2.2.2.2.2.2.2.1), (1, .ref (K.2.2.2.2.2.2.2.2.2.2.1.1 0)), (2, .ref (K.2.2.2.2.2.2.2.2.2.2.2.1 0)), (3, .int x3)] [] := by
  obtain ⟨r, SX1, SM1, hx, hm, hR1⟩ := hag SX SM (xs (x3 + (1 : Int32)).toNatClampNeg) (xs (x3 + (2 : Int32)).toNatClampNeg) (xs (x3 + (3 : Int32)).toNatClampNeg) hR
  refine y_aload_n Y 1 dL_law_932 rfl rfl ?_
  refine y_aload_n Y 0 dL_law_933 rfl rfl ?_
  refine y_iload_n Y 3 dL_law_934 rfl rfl ?_
  refine y_iconst Y (1 : Int32) dL_law_935 (by decide) ?_
  refine y_iadd Y dL_law_936 ?_
  refine y_sld Y rfl i1 dL_law_937 ?_
  refine y_aload_n Y 0 dL_law_938 rfl rfl ?_
  refine y_iload_n Y 3 dL_law_939 rfl rfl ?_
  refine y_iconst Y (2 : Int32) dL_law_940 (by decide) ?_
  refine y_iadd Y dL_law_941 ?_
  refine y_sld Y rfl i2 dL_law_942 ?_
  refine y_aload_n Y 0 dL_law_943 rfl rfl ?_
  refine y_iload_n Y 3 dL_law_944 rfl rfl ?_
  refine y_iconst Y (3 : Int32) dL_law_945 (by decide) ?_
  refine y_iadd Y dL_law_946 ?_
  refine y_sld Y rfl i3 dL_law_947 ?_
  refine y_callX (As := [.int (xs (x3 + (1 : Int32)).toNatClampNeg), .int (xs (x3 + (2 : Int32)).toNatClampNeg), .int (xs (x3 + (3 : Int32)).toNatClampNeg)]) (rest := []) Y 3 (k_X10_friends Y.2.2.2.1 hx) gl_X10_friends rfl rfl rfl y_X10_friends ⟨Nat.le_of_ble_eq_true rfl, Nat.le_of_ble_eq_true rfl⟩ rfl rfl (Nat.le_of_ble_eq_true rfl) dL_law_948 ?_
  show yX K SX1 SM 951 _ [.int r]
  refine y_aload_n Y 2 dL_law_951 rfl rfl ?_
  refine y_aload_n Y 0 dL_law_952 rfl rfl ?_
  refine y_iload_n Y 3 dL_law_953 rfl rfl ?_
  refine y_iconst Y (1 : Int32) dL_law_954 (by decide) ?_
  refine y_iadd Y dL_law_955 ?_
  refine y_sld Y rfl i1 dL_law_956 ?_
  refine y_aload_n Y 0 dL_law_957 rfl rfl ?_
  refine y_iload_n Y 3 dL_law_958 rfl rfl ?_
  refine y_iconst Y (2 : Int32) dL_law_959 (by decide) ?_
  refine y_iadd Y dL_law_960 ?_
  refine y_sld Y rfl i2 dL_law_961 ?_
  refine y_aload_n Y 0 dL_law_962 rfl rfl ?_
  refine y_iload_n Y 3 dL_law_963 rfl rfl ?_
  refine y_iconst Y (3 : Int32) dL_law_964 (by decide) ?_
  refine y_iadd Y dL_law_965 ?_
  refine y_sld Y rfl i3 dL_law_966 ?_
  refine y_callM (As := [.int (xs (x3 + (1 : Int32)).toNatClampNeg), .int (xs (x3 + (2 : Int32)).toNatClampNeg), .int (xs (x3 + (3 : Int32)).toNatClampNeg)]) (rest := [.int r]) Y 3 (k_X11_friends Y.2.2.2.2.1 hm) gl_X11_friends rfl rfl rfl y_X11_friends ⟨Nat.le_of_ble_eq_true rfl, Nat.le_of_ble_eq_true rfl⟩ rfl rfl (Nat.le_of_ble_eq_true rfl) dL_law_967 ?_
  show yX K SX1 SM1 970 _ [.int r, .int r]
  refine y_same Y 1508 dL_law_970 (by decide) ?_
  exact kk _ _ hR1
set_option maxRecDepth 100000 in
set_option maxHeartbeats 4000000 in
theorem y_case24 {K : yK} {L : Nat} {xs : Nat → Int32} (Y : yAt K L xs) {R : zSt → zSt → Prop} (hag : ag_mean R) {SX SM : zSt} (hR : R SX SM) {x3 : Int32} (i1 : vp_in (x3 + (1 : Int32)) L) (i2 : vp_in (x3 + (2 : Int32)) L) (kk : ∀ SX1 SM1, R SX1 SM1 → yX K SX1 SM1 1508 [(0, .ref K.2.2.2.2.2.2.2.2.1), (1, .ref (K.2.2.2.2.2.2.2.2.2.2.1.1 0)), (2, .ref (K.2.2.2.2.2.2.2.2.2.2.2.1 0)), (3, .int x3)] []) : yX K SX SM 975 [(0, .ref K.2.2.2.2.2.2.2.2.1), (1, .ref (K.2.2.2.2.2.2.2.2.2.2.1.1 0)), (2, .ref (K.2.2.2.2.2.2.2.2.2.2.2.1 0)), (3, .int x3)] [] := by
  obtain ⟨r, hx, hm⟩ := hag SX SM (xs (x3 + (1 : Int32)).toNatClampNeg) (xs (x3 + (2 : Int32)).toNatClampNeg) hR
  refine y_aload_n Y 1 dL_law_975 rfl rfl ?_
  refine y_aload_n Y 0 dL_law_976 rfl rfl ?_
  refine y_iload_n Y 3 dL_law_977 rfl rfl ?_
  refine y_iconst Y (1 : Int32) dL_law_978 (by decide) ?_
  refine y_iadd Y dL_law_979 ?_
  refine y_sld Y rfl i1 dL_law_980 ?_
  refine y_aload_n Y 0 dL_law_981 rfl rfl ?_
  refine y_iload_n Y 3 dL_law_982 rfl rfl ?_
  refine y_iconst Y (2 : Int32) dL_law_983 (by decide) ?_
  refine y_iadd Y dL_law_984 ?_
  refine y_sld Y rfl i2 dL_law_985 ?_
  refine y_callX (As := [.int (xs (x3 + (1 : Int32)).toNatClampNeg), .int (xs (x3 + (2 : Int32)).toNatClampNeg)]) (rest := []) Y 2 (k_X10_mean Y.2.2.2.1 hx) gl_X10_mean rfl rfl rfl y_X10_mean ⟨Nat.le_of_ble_eq_true rfl, Nat.le_of_ble_eq_true rfl⟩ rfl rfl (Nat.le_of_ble_eq_true rfl) dL_law_986 ?_
  show yX K SX SM 989 _ [.long r]
  refine y_aload_n Y 2 dL_law_989 rfl rfl ?_
  refine y_aload_n Y 0 dL_law_990 rfl rfl ?_
  refine y_iload_n Y 3 dL_law_991 rfl rfl ?_
  refine y_iconst Y (1 : Int32) dL_law_992 (by decide) ?_
  refine y_iadd Y dL_law_993 ?_
  refine y_sld Y rfl i1 dL_law_994 ?_
  refine y_aload_n Y 0 dL_law_995 rfl rfl ?_
  refine y_iload_n Y 3 dL_law_996 rfl rfl ?_
  refine y_iconst Y (2 : Int32) dL_law_997 (by decide) ?_
  refine y_iadd Y dL_law_998 ?_
  refine y_sld Y rfl i2 dL_law_999 ?_
  refine y_callM (As := [.int (xs (x3 + (1 : Int32)).toNatClampNeg), .int (xs (x3 + (2 : Int32)).toNatClampNeg)]) (rest := [.long r]) Y 2 (k_X11_mean Y.2.2.2.2.1 hm) gl_X11_mean rfl rfl rfl y_X11_mean ⟨Nat.le_of_ble_eq_true rfl, Nat.le_of_ble_eq_true rfl⟩ rfl rfl (Nat.le_of_ble_eq_true rfl) dL_law_1000 ?_
  show yX K SX SM 1003 _ [.long r, .long r]
  refine y_samel Y 1508 dL_law_1003 dL_law_1004 (by decide) ?_
  exact kk _ _ hR
set_option maxRecDepth 100000 in
set_option maxHeartbeats 4000000 in
theorem y_case25 {K : yK} {L : Nat} {xs : Nat → Int32} (Y : yAt K L xs) {R : zSt → zSt → Prop} (hag : ag_fewer R) {SX SM : zSt} (hR : R SX SM) {x3 : Int32}  (kk : ∀ SX1 SM1, R SX1 SM1 → yX K SX1 SM1 1508 [(0, .ref K.2.2.2.2.2.2.2.2.1), (1, .ref (K.2.2.2.2.2.2.2.2.2.2.1.1 0)), (2, .ref (K.2.2.2.2.2.2.2.2.2.2.2.1 0)), (3, .int x3)] []) : yX K SX SM 1009 [(0, .ref K.2.2.2.2.2.2.2.2.1), (1, .ref (K.2.2.2.2.2.2.2.2.2.2.1.1 0)), (2, .ref (K.2.2.2.2.2.2.2.2.2.2.2.1 0)), (3, .int x3)] [] := by
  obtain ⟨r, hx, hm⟩ := hag SX SM  hR
  refine y_aload_n Y 1 dL_law_1009 rfl rfl ?_
  refine y_callX (As := []) (rest := []) Y 0 (k_X10_fewer Y.2.2.2.1 hx) gl_X10_fewer rfl rfl rfl y_X10_fewer ⟨Nat.le_of_ble_eq_true rfl, Nat.le_of_ble_eq_true rfl⟩ rfl rfl (Nat.le_of_ble_eq_true rfl) dL_law_1010 ?_
  show yX K SX SM 1013 _ [.int r]
  refine y_aload_n Y 2 dL_law_1013 rfl rfl ?_
  refine y_callM (As := []) (rest := [.int r]) Y 0 (k_X11_fewer Y.2.2.2.2.1 hm) gl_X11_fewer rfl rfl rfl y_X11_fewer ⟨Nat.le_of_ble_eq_true rfl, Nat.le_of_ble_eq_true rfl⟩ rfl rfl (Nat.le_of_ble_eq_true rfl) dL_law_1014 ?_
  show yX K SX SM 1017 _ [.int r, .int r]
  refine y_same Y 1508 dL_law_1017 (by decide) ?_
  exact kk _ _ hR
set_option maxRecDepth 100000 in
set_option maxHeartbeats 4000000 in
theorem y_case26 {K : yK} {L : Nat} {xs : Nat → Int32} (Y : yAt K L xs) {R : zSt → zSt → Prop} (hag : ag_picked R) {SX SM : zSt} (hR : R SX SM) {x3 : Int32} (i1 : vp_in (x3 + (1 : Int32)) L) (i2 : vp_in (x3 + (2 : Int32)) L) (kk : ∀ SX1 SM1, R SX1 SM1 → yX K SX1 SM1 1508 [(0, .ref K.2.2.2.2.2.2.2.2.1), (1, .ref (K.2.2.2.2.2.2.2.2.2.2.1.1 0)), (2, .ref (K.2.2.2.2.2.2.2.2.2.2.2.1 0)), (3, .int x3)] []) : yX K SX SM 1022 [(0, .ref K.2.2.2.2.2.2.2.2.1), (1, .ref (K.2.2.2.2.2.2.2.2.2.2.1.1 0)), (2, .ref (K.2.2.2.2.2.2.2.2.2.2.2.1 0)), (3, .int x3)] [] := by
  obtain ⟨r, hx, hm⟩ := hag SX SM (xs (x3 + (1 : Int32)).toNatClampNeg) (xs (x3 + (2 : Int32)).toNatClampNeg) hR
  refine y_aload_n Y 1 dL_law_1022 rfl rfl ?_
  refine y_aload_n Y 0 dL_law_1023 rfl rfl ?_
  refine y_iload_n Y 3 dL_law_1024 rfl rfl ?_
  refine y_iconst Y (1 : Int32) dL_law_1025 (by decide) ?_
  refine y_iadd Y dL_law_1026 ?_
  refine y_sld Y rfl i1 dL_law_1027 ?_
  refine y_aload_n Y 0 dL_law_1028 rfl rfl ?_
  refine y_iload_n Y 3 dL_law_1029 rfl rfl ?_
  refine y_iconst Y (2 : Int32) dL_law_1030 (by decide) ?_
  refine y_iadd Y dL_law_1031 ?_
  refine y_sld Y rfl i2 dL_law_1032 ?_
  refine y_callX (As := [.int (xs (x3 + (1 : Int32)).toNatClampNeg), .int (xs (x3 + (2 : Int32)).toNatClampNeg)]) (rest := []) Y 2 (k_X10_picked Y.2.2.2.1 hx) gl_X10_picked rfl rfl rfl y_X10_picked ⟨Nat.le_of_ble_eq_true rfl, Nat.le_of_ble_eq_true rfl⟩ rfl rfl (Nat.le_of_ble_eq_true rfl) dL_law_1033 ?_
  show yX K SX SM 1036 _ [.long r]
  refine y_aload_n Y 2 dL_law_1036 rfl rfl ?_
  refine y_aload_n Y 0 dL_law_1037 rfl rfl ?_
  refine y_iload_n Y 3 dL_law_1038 rfl rfl ?_
  refine y_iconst Y (1 : Int32) dL_law_1039 (by decide) ?_
  refine y_iadd Y dL_law_1040 ?_
  refine y_sld Y rfl i1 dL_law_1041 ?_
  refine y_aload_n Y 0 dL_law_1042 rfl rfl ?_
  refine y_iload_n Y 3 dL_law_1043 rfl rfl ?_
  refine y_iconst Y (2 : Int32) dL_law_1044 (by decide) ?_
  refine y_iadd Y dL_law_1045 ?_
  refine y_sld Y rfl i2 dL_law_1046 ?_
  refine y_callM (As := [.int (xs (x3 + (1 : Int32)).toNatClampNeg), .int (xs (x3 + (2 : Int32)).toNatClampNeg)]) (rest := [.long r]) Y 2 (k_X11_picked Y.2.2.2.2.1 hm) gl_X11_picked rfl rfl rfl y_X11_picked ⟨Nat.le_of_ble_eq_true rfl, Nat.le_of_ble_eq_true rfl⟩ rfl rfl (Nat.le_of_ble_eq_true rfl) dL_law_1047 ?_
  show yX K SX SM 1050 _ [.long r, .long r]
  refine y_samel Y 1508 dL_law_1050 dL_law_1051 (by decide) ?_
  exact kk _ _ hR
set_option maxRecDepth 100000 in
set_option maxHeartbeats 4000000 in
theorem y_case27 {K : yK} {L : Nat} {xs : Nat → Int32} (Y : yAt K L xs) {R : zSt → zSt → Prop} (hag : ag_best R) {SX SM : zSt} (hR : R SX SM) {x3 : Int32} (i1 : vp_in (x3 + (1 : Int32)) L) (i2 : vp_in (x3 + (2 : Int32)) L) (kk : ∀ SX1 SM1, R SX1 SM1 → yX K SX1 SM1 1508 [(0, .ref K.2.2.2.2.2.2.2.2.1), (1, .ref (K.2.2.2.2.2.2.2.2.2.2.1.1 0)), (2, .ref (K.2.2.2.2.2.2.2.2.2.2.2.1 0)), (3, .int x3)] []) : yX K SX SM 1056 [(0, .ref K.2.2.2.2.2.2.2.2.1), (1, .ref (K.2.2.2.2.2.2.2.2.2.2.1.1 0)), (2, .ref (K.2.2.2.2.2.2.2.2.2.2.2.1 0)), (3, .int x3)] [] := by
  obtain ⟨r, hx, hm⟩ := hag SX SM (xs (x3 + (1 : Int32)).toNatClampNeg) (xs (x3 + (2 : Int32)).toNatClampNeg) hR
  refine y_aload_n Y 1 dL_law_1056 rfl rfl ?_
  refine y_aload_n Y 0 dL_law_1057 rfl rfl ?_
  refine y_iload_n Y 3 dL_law_1058 rfl rfl ?_
  refine y_iconst Y (1 : Int32) dL_law_1059 (by decide) ?_
  refine y_iadd Y dL_law_1060 ?_
  refine y_sld Y rfl i1 dL_law_1061 ?_
  refine y_aload_n Y 0 dL_law_1062 rfl rfl ?_
  refine y_iload_n Y 3 dL_law_1063 rfl rfl ?_
  refine y_iconst Y (2 : Int32) dL_law_1064 (by decide) ?_
  refine y_iadd Y dL_law_1065 ?_
  refine y_sld Y rfl i2 dL_law_1066 ?_
  refine y_callX (As := [.int (xs (x3 + (1 : Int32)).toNatClampNeg), .int (xs (x3 + (2 : Int32)).toNatClampNeg)]) (rest := []) Y 2 (k_X10_best Y.2.2.2.1 hx) gl_X10_best rfl rfl rfl y_X10_best ⟨Nat.le_of_ble_eq_true rfl, Nat.le_of_ble_eq_true rfl⟩ rfl rfl (Nat.le_of_ble_eq_true rfl) dL_law_1067 ?_
  show yX K SX SM 1070 _ [.int r]
  refine y_aload_n Y 2 dL_law_1070 rfl rfl ?_
  refine y_aload_n Y 0 dL_law_1071 rfl rfl ?_
  refine y_iload_n Y 3 dL_law_1072 rfl rfl ?_
  refine y_iconst Y (1 : Int32) dL_law_1073 (by decide) ?_
  refine y_iadd Y dL_law_1074 ?_
  refine y_sld Y rfl i1 dL_law_1075 ?_
  refine y_aload_n Y 0 dL_law_1076 rfl rfl ?_
  refine y_iload_n Y 3 dL_law_1077 rfl rfl ?_
  refine y_iconst Y (2 : Int32) dL_law_1078 (by decide) ?_
  refine y_iadd Y dL_law_1079 ?_
  refine y_sld Y rfl i2 dL_law_1080 ?_
  refine y_callM (As := [.int (xs (x3 + (1 : Int32)).toNatClampNeg), .int (xs (x3 + (2 : Int32)).toNatClampNeg)]) (rest := [.int r]) Y 2 (k_X11_best Y.2.2.2.2.1 hm) gl_X11_best rfl rfl rfl y_X11_best ⟨Nat.le_of_ble_eq_true rfl, Nat.le_of_ble_eq_true rfl⟩ rfl rfl (Nat.le_of_ble_eq_true rfl) dL_law_1081 ?_
  show yX K SX SM 1084 _ [.int r, .int r]
  refine y_same Y 1508 dL_law_1084 (by decide) ?_
  exact kk _ _ hR
set_option maxRecDepth 100000 in
set_option maxHeartbeats 4000000 in
theorem y_case28 {K : yK} {L : Nat} {xs : Nat → Int32} (Y : yAt K L xs) {R : zSt → zSt → Prop} (hag : ag_piece R) {SX SM : zSt} (hR : R SX SM) {x3 : Int32} (i1 : vp_in (x3 + (1 : Int32)) L) (kk : ∀ SX1 SM1, R SX1 SM1 → yX K SX1 SM1 1508 [(0, .ref K.2.2.2.2.2.2.2.2.1), (1, .ref (K.2.2.2.2.2.2.2.2.2.2.1.1 0)), (2, .ref (K.2.2.2.2.2.2.2.2.2.2.2.1 0)), (3, .int x3)] []) : yX K SX SM 1089 [(0, .ref K.2.2.2.2.2.2.2.2.1), (1, .ref (K.2.2.2.2.2.2.2.2.2.2.1.1 0)), (2, .ref (K.2.2.2.2.2.2.2.2.2.2.2.1 0)), (3, .int x3)] [] := by
  obtain ⟨r, SX1, SM1, hx, hm, hR1⟩ := hag SX SM (xs (x3 + (1 : Int32)).toNatClampNeg) hR
  refine y_aload_n Y 1 dL_law_1089 rfl rfl ?_
  refine y_aload_n Y 0 dL_law_1090 rfl rfl ?_
  refine y_iload_n Y 3 dL_law_1091 rfl rfl ?_
  refine y_iconst Y (1 : Int32) dL_law_1092 (by decide) ?_
  refine y_iadd Y dL_law_1093 ?_
  refine y_sld Y rfl i1 dL_law_1094 ?_
  refine y_callX (As := [.int (xs (x3 + (1 : Int32)).toNatClampNeg)]) (rest := []) Y 1 (k_X10_piece Y.2.2.2.1 hx) gl_X10_piece rfl rfl rfl y_X10_piece ⟨Nat.le_of_ble_eq_true rfl, Nat.le_of_ble_eq_true rfl⟩ rfl rfl (Nat.le_of_ble_eq_true rfl) dL_law_1095 ?_
  show yX K SX1 SM 1098 _ [.int r]
  refine y_aload_n Y 2 dL_law_1098 rfl rfl ?_
  refine y_aload_n Y 0 dL_law_1099 rfl rfl ?_
  refine y_iload_n Y 3 dL_law_1100 rfl rfl ?_
  refine y_iconst Y (1 : Int32) dL_law_1101 (by decide) ?_
  refine y_iadd Y dL_law_1102 ?_
  refine y_sld Y rfl i1 dL_law_1103 ?_
  refine y_callM (As := [.int (xs (x3 + (1 : Int32)).toNatClampNeg)]) (rest := [.int r]) Y 1 (k_X11_piece Y.2.2.2.2.1 hm) gl_X11_piece rfl rfl rfl y_X11_piece ⟨Nat.le_of_ble_eq_true rfl, Nat.le_of_ble_eq_true rfl⟩ rfl rfl (Nat.le_of_ble_eq_true rfl) dL_law_1104 ?_
  show yX K SX1 SM1 1107 _ [.int r, .int r]
  refine y_same Y 1508 dL_law_1107 (by decide) ?_
  exact kk _ _ hR1
set_option maxRecDepth 100000 in
set_option maxHeartbeats 4000000 in
theorem y_case29 {K : yK} {L : Nat} {xs : Nat → Int32} (Y : yAt K L xs) {R : zSt → zSt → Prop} (hag : ag_snap R) {SX SM : zSt} (hR : R SX SM) {x3 : Int32}  (kk : ∀ SX1 SM1, R SX1 SM1 → yX K SX1 SM1 1508 [(0, .ref K.2.2.2.2.2.2.2.2.1), (1, .ref (K.2.2.2.2.2.2.2.2.2.2.1.1 0)), (2, .ref (K.2.2.2.2.2.2.2.2.2.2.2.1 0)), (3, .int x3)] []) : yX K SX SM 1112 [(0, .ref K.2.2.2.2.2.2.2.2.1), (1, .ref (K.2.2.2.2.2.2.2.2.2.2.1.1 0)), (2, .ref (K.2.2.2.2.2.2.2.2.2.2.2.1 0)), (3, .int x3)] [] := by
  obtain ⟨r, SX1, SM1, hx, hm, hR1⟩ := hag SX SM  hR
  refine y_aload_n Y 1 dL_law_1112 rfl rfl ?_
  refine y_callX (As := []) (rest := []) Y 0 (k_X10_snap Y.2.2.2.1 hx) gl_X10_snap rfl rfl rfl y_X10_snap ⟨Nat.le_of_ble_eq_true rfl, Nat.le_of_ble_eq_true rfl⟩ rfl rfl (Nat.le_of_ble_eq_true rfl) dL_law_1113 ?_
  show yX K SX1 SM 1116 _ [.int r]
  refine y_aload_n Y 2 dL_law_1116 rfl rfl ?_
  refine y_callM (As := []) (rest := [.int r]) Y 0 (k_X11_snap Y.2.2.2.2.1 hm) gl_X11_snap rfl rfl rfl y_X11_snap ⟨Nat.le_of_ble_eq_true rfl, Nat.le_of_ble_eq_true rfl⟩ rfl rfl (Nat.le_of_ble_eq_true rfl) dL_law_1117 ?_
  show yX K SX1 SM1 1120 _ [.int r, .int r]
  refine y_same Y 1508 dL_law_1120 (by decide) ?_
  exact kk _ _ hR1
set_option maxRecDepth 100000 in
set_option maxHeartbeats 4000000 in
theorem y_case30 {K : yK} {L : Nat} {xs : Nat → Int32} (Y : yAt K L xs) {R : zSt → zSt → Prop} (hag : ag_hit R) {SX SM : zSt} (hR : R SX SM) {x3 : Int32} (i1 : vp_in (x3 + (1 : Int32)) L) (i2 : vp_in (x3 + (2 : Int32)) L) (i3 : vp_in (x3 + (3 : Int32)) L) (kk : ∀ SX1 SM1, R SX1 SM1 → yX K SX1 SM1 1508 [(0, .ref K.2.2.2.2.2.2.2.2.1), (1, .ref (K.2.2.2.2.2.2.2.2.2.2.1.1 0)), (2, .ref (K.2.2.2.2.2.2.2.2.2.2.2.1 0)), (3, .int x3)] []) : yX K SX SM 1125 [(0, .ref K.2.2.2.2.2.2.2.2.1), (1, .ref (K.2.2.2.2.2.2.2.2.2.2.1.1 0)), (2, .ref (K.2.2.2.2.2.2.2.2.2.2.2.1 0)), (3, .int x3)] [] := by
  obtain ⟨r, hx, hm⟩ := hag SX SM (xs (x3 + (1 : Int32)).toNatClampNeg) (xs (x3 + (2 : Int32)).toNatClampNeg) (xs (x3 + (3 : Int32)).toNatClampNeg) hR
  refine y_aload_n Y 1 dL_law_1125 rfl rfl ?_
  refine y_aload_n Y 0 dL_law_1126 rfl rfl ?_
  refine y_iload_n Y 3 dL_law_1127 rfl rfl ?_
  refine y_iconst Y (1 : Int32) dL_law_1128 (by decide) ?_
  refine y_iadd Y dL_law_1129 ?_
  refine y_sld Y rfl i1 dL_law_1130 ?_
  refine y_aload_n Y 0 dL_law_1131 rfl rfl ?_
  refine y_iload_n Y 3 dL_law_1132 rfl rfl ?_
  refine y_iconst Y (2 : Int32) dL_law_1133 (by decide) ?_
  refine y_iadd Y dL_law_1134 ?_
  refine y_sld Y rfl i2 dL_law_1135 ?_
  refine y_aload_n Y 0 dL_law_1136 rfl rfl ?_
  refine y_iload_n Y 3 dL_law_1137 rfl rfl ?_
  refine y_iconst Y (3 : Int32) dL_law_1138 (by decide) ?_
  refine y_iadd Y dL_law_1139 ?_
  refine y_sld Y rfl i3 dL_law_1140 ?_
  refine y_callX (As := [.int (xs (x3 + (1 : Int32)).toNatClampNeg), .int (xs (x3 + (2 : Int32)).toNatClampNeg), .int (xs (x3 + (3 : Int32)).toNatClampNeg)]) (rest := []) Y 3 (k_X10_hit Y.2.2.2.1 hx) gl_X10_hit rfl rfl rfl y_X10_hit ⟨Nat.le_of_ble_eq_true rfl, Nat.le_of_ble_eq_true rfl⟩ rfl rfl (Nat.le_of_ble_eq_true rfl) dL_law_1141 ?_
  show yX K SX SM 1144 _ [.long r]
  refine y_aload_n Y 2 dL_law_1144 rfl rfl ?_
  refine y_aload_n Y 0 dL_law_1145 rfl rfl ?_
  refine y_iload_n Y 3 dL_law_1146 rfl rfl ?_
  refine y_iconst Y (1 : Int32) dL_law_1147 (by decide) ?_
  refine y_iadd Y dL_law_1148 ?_
  refine y_sld Y rfl i1 dL_law_1149 ?_
  refine y_aload_n Y 0 dL_law_1150 rfl rfl ?_
  refine y_iload_n Y 3 dL_law_1151 rfl rfl ?_
  refine y_iconst Y (2 : Int32) dL_law_1152 (by decide) ?_
  refine y_iadd Y dL_law_1153 ?_
  refine y_sld Y rfl i2 dL_law_1154 ?_
  refine y_aload_n Y 0 dL_law_1155 rfl rfl ?_
  refine y_iload_n Y 3 dL_law_1156 rfl rfl ?_
  refine y_iconst Y (3 : Int32) dL_law_1157 (by decide) ?_
  refine y_iadd Y dL_law_1158 ?_
  refine y_sld Y rfl i3 dL_law_1159 ?_
  refine y_callM (As := [.int (xs (x3 + (1 : Int32)).toNatClampNeg), .int (xs (x3 + (2 : Int32)).toNatClampNeg), .int (xs (x3 + (3 : Int32)).toNatClampNeg)]) (rest := [.long r]) Y 3 (k_X11_hit Y.2.2.2.2.1 hm) gl_X11_hit rfl rfl rfl y_X11_hit ⟨Nat.le_of_ble_eq_true rfl, Nat.le_of_ble_eq_true rfl⟩ rfl rfl (Nat.le_of_ble_eq_true rfl) dL_law_1160 ?_
  show yX K SX SM 1163 _ [.long r, .long r]
  refine y_samel Y 1508 dL_law_1163 dL_law_1164 (by decide) ?_
  exact kk _ _ hR
set_option maxRecDepth 100000 in
set_option maxHeartbeats 4000000 in
theorem y_case31 {K : yK} {L : Nat} {xs : Nat → Int32} (Y : yAt K L xs) {R : zSt → zSt → Prop} (hag : ag_stick R) {SX SM : zSt} (hR : R SX SM) {x3 : Int32} (i1 : vp_in (x3 + (1 : Int32)) L) (i2 : vp_in (x3 + (2 : Int32)) L) (i3 : vp_in (x3 + (3 : Int32)) L) (kk : ∀ SX1 SM1, R SX1 SM1 → yX K SX1 SM1 1508 [(0, .ref K.2.2.2.2.2.2.2.2.1), (1, .ref (K.2.2.2.2.2.2.2.2.2.2.1.1 0)), (2, .ref (K.2.2.2.2.2.2.2.2.2.2.2.1 0)), (3, .int x3)] []) : yX K SX SM 1169 [(0, .ref K.2.2.2.2.2.2.2.2.1), (1, .ref (K.2.2.2.2.2.2.2.2.2.2.1.1 0)), (2, .ref (K.2.2.2.2.2.2.2.2.2.2.2.1 0)), (3, .int x3)] [] := by
  obtain ⟨r, hx, hm⟩ := hag SX SM (xs (x3 + (1 : Int32)).toNatClampNeg) (xs (x3 + (2 : Int32)).toNatClampNeg) (xs (x3 + (3 : Int32)).toNatClampNeg) hR
  refine y_aload_n Y 1 dL_law_1169 rfl rfl ?_
  refine y_aload_n Y 0 dL_law_1170 rfl rfl ?_
  refine y_iload_n Y 3 dL_law_1171 rfl rfl ?_
  refine y_iconst Y (1 : Int32) dL_law_1172 (by decide) ?_
  refine y_iadd Y dL_law_1173 ?_
  refine y_sld Y rfl i1 dL_law_1174 ?_
  refine y_aload_n Y 0 dL_law_1175 rfl rfl ?_
  refine y_iload_n Y 3 dL_law_1176 rfl rfl ?_
  refine y_iconst Y (2 : Int32) dL_law_1177 (by decide) ?_
  refine y_iadd Y dL_law_1178 ?_
  refine y_sld Y rfl i2 dL_law_1179 ?_
  refine y_aload_n Y 0 dL_law_1180 rfl rfl ?_
  refine y_iload_n Y 3 dL_law_1181 rfl rfl ?_
  refine y_iconst Y (3 : Int32) dL_law_1182 (by decide) ?_
  refine y_iadd Y dL_law_1183 ?_
  refine y_sld Y rfl i3 dL_law_1184 ?_
  refine y_callX (As := [.int (xs (x3 + (1 : Int32)).toNatClampNeg), .int (xs (x3 + (2 : Int32)).toNatClampNeg), .int (xs (x3 + (3 : Int32)).toNatClampNeg)]) (rest := []) Y 3 (k_X10_stick Y.2.2.2.1 hx) gl_X10_stick rfl rfl rfl y_X10_stick ⟨Nat.le_of_ble_eq_true rfl, Nat.le_of_ble_eq_true rfl⟩ rfl rfl (Nat.le_of_ble_eq_true rfl) dL_law_1185 ?_
  show yX K SX SM 1188 _ [.long r]
  refine y_aload_n Y 2 dL_law_1188 rfl rfl ?_
  refine y_aload_n Y 0 dL_law_1189 rfl rfl ?_
  refine y_iload_n Y 3 dL_law_1190 rfl rfl ?_
  refine y_iconst Y (1 : Int32) dL_law_1191 (by decide) ?_
  refine y_iadd Y dL_law_1192 ?_
  refine y_sld Y rfl i1 dL_law_1193 ?_
  refine y_aload_n Y 0 dL_law_1194 rfl rfl ?_
  refine y_iload_n Y 3 dL_law_1195 rfl rfl ?_
  refine y_iconst Y (2 : Int32) dL_law_1196 (by decide) ?_
  refine y_iadd Y dL_law_1197 ?_
  refine y_sld Y rfl i2 dL_law_1198 ?_
  refine y_aload_n Y 0 dL_law_1199 rfl rfl ?_
  refine y_iload_n Y 3 dL_law_1200 rfl rfl ?_
  refine y_iconst Y (3 : Int32) dL_law_1201 (by decide) ?_
  refine y_iadd Y dL_law_1202 ?_
  refine y_sld Y rfl i3 dL_law_1203 ?_
  refine y_callM (As := [.int (xs (x3 + (1 : Int32)).toNatClampNeg), .int (xs (x3 + (2 : Int32)).toNatClampNeg), .int (xs (x3 + (3 : Int32)).toNatClampNeg)]) (rest := [.long r]) Y 3 (k_X11_stick Y.2.2.2.2.1 hm) gl_X11_stick rfl rfl rfl y_X11_stick ⟨Nat.le_of_ble_eq_true rfl, Nat.le_of_ble_eq_true rfl⟩ rfl rfl (Nat.le_of_ble_eq_true rfl) dL_law_1204 ?_
  show yX K SX SM 1207 _ [.long r, .long r]
  refine y_samel Y 1508 dL_law_1207 dL_law_1208 (by decide) ?_
  exact kk _ _ hR
set_option maxRecDepth 100000 in
set_option maxHeartbeats 4000000 in
theorem y_case32 {K : yK} {L : Nat} {xs : Nat → Int32} (Y : yAt K L xs) {R : zSt → zSt → Prop} (hag : ag_sheet R) {SX SM : zSt} (hR : R SX SM) {x3 : Int32} (i1 : vp_in (x3 + (1 : Int32)) L) (i2 : vp_in (x3 + (2 : Int32)) L) (i3 : vp_in (x3 + (3 : Int32)) L) (kk : ∀ SX1 SM1, R SX1 SM1 → yX K SX1 SM1 1508 [(0, .ref K.2.2.2.2.2.2.2.2.1), (1, .ref (K.2.2.2.2.2.2.2.2.2.2.1.1 0)), (2, .ref (K.2.2.2.2.2.2.2.2.2.2.2.1 0)), (3, .int x3)] []) : yX K SX SM 1213 [(0, .ref K.2.2.2.2.2.2.2.2.1), (1, .ref (K.2.2.2.2.2.2.2.2.2.2.1.1 0)), (2, .ref (K.2.2.2.2.2.2.2.2.2.2.2.1 0)), (3, .int x3)] [] := by
  obtain ⟨r, SX1, SM1, hx, hm, hR1⟩ := hag SX SM (xs (x3 + (1 : Int32)).toNatClampNeg) (xs (x3 + (2 : Int32)).toNatClampNeg) (xs (x3 + (3 : Int32)).toNatClampNeg) hR
  refine y_aload_n Y 1 dL_law_1213 rfl rfl ?_
  refine y_aload_n Y 0 dL_law_1214 rfl rfl ?_
  refine y_iload_n Y 3 dL_law_1215 rfl rfl ?_
  refine y_iconst Y (1 : Int32) dL_law_1216 (by decide) ?_
  refine y_iadd Y dL_law_1217 ?_
  refine y_sld Y rfl i1 dL_law_1218 ?_
  refine y_aload_n Y 0 dL_law_1219 rfl rfl ?_
  refine y_iload_n Y 3 dL_law_1220 rfl rfl ?_
  refine y_iconst Y (2 : Int32) dL_law_1221 (by decide) ?_
  refine y_iadd Y dL_law_1222 ?_
  refine y_sld Y rfl i2 dL_law_1223 ?_
  refine y_aload_n Y 0 dL_law_1224 rfl rfl ?_
  refine y_iload_n Y 3 dL_law_1225 rfl rfl ?_
  refine y_iconst Y (3 : Int32) dL_law_1226 (by decide) ?_
  refine y_iadd Y dL_law_1227 ?_
  refine y_sld Y rfl i3 dL_law_1228 ?_
  refine y_callX (As := [.int (xs (x3 + (1 : Int32)).toNatClampNeg), .int (xs (x3 + (2 : Int32)).toNatClampNeg), .int (xs (x3 + (3 : Int32)).toNatClampNeg)]) (rest := []) Y 3 (k_X10_sheet Y.2.2.2.1 hx) gl_X10_sheet rfl rfl rfl y_X10_sheet ⟨Nat.le_of_ble_eq_true rfl, Nat.le_of_ble_eq_true rfl⟩ rfl rfl (Nat.le_of_ble_eq_true rfl) dL_law_1229 ?_
  show yX K SX1 SM 1232 _ [.int r]
  refine y_aload_n Y 2 dL_law_1232 rfl rfl ?_
  refine y_aload_n Y 0 dL_law_1233 rfl rfl ?_
  refine y_iload_n Y 3 dL_law_1234 rfl rfl ?_
  refine y_iconst Y (1 : Int32) dL_law_1235 (by decide) ?_
  refine y_iadd Y dL_law_1236 ?_
  refine y_sld Y rfl i1 dL_law_1237 ?_
  refine y_aload_n Y 0 dL_law_1238 rfl rfl ?_
  refine y_iload_n Y 3 dL_law_1239 rfl rfl ?_
  refine y_iconst Y (2 : Int32) dL_law_1240 (by decide) ?_
  refine y_iadd Y dL_law_1241 ?_
  refine y_sld Y rfl i2 dL_law_1242 ?_
  refine y_aload_n Y 0 dL_law_1243 rfl rfl ?_
  refine y_iload_n Y 3 dL_law_1244 rfl rfl ?_
  refine y_iconst Y (3 : Int32) dL_law_1245 (by decide) ?_
  refine y_iadd Y dL_law_1246 ?_
  refine y_sld Y rfl i3 dL_law_1247 ?_
  refine y_callM (As := [.int (xs (x3 + (1 : Int32)).toNatClampNeg), .int (xs (x3 + (2 : Int32)).toNatClampNeg), .int (xs (x3 + (3 : Int32)).toNatClampNeg)]) (rest := [.int r]) Y 3 (k_X11_sheet Y.2.2.2.2.1 hm) gl_X11_sheet rfl rfl rfl y_X11_sheet ⟨Nat.le_of_ble_eq_true rfl, Nat.le_of_ble_eq_true rfl⟩ rfl rfl (Nat.le_of_ble_eq_true rfl) dL_law_1248 ?_
  show yX K SX1 SM1 1251 _ [.int r, .int r]
  refine y_same Y 1508 dL_law_1251 (by decide) ?_
  exact kk _ _ hR1
set_option maxRecDepth 100000 in
set_option maxHeartbeats 4000000 in
theorem y_case33 {K : yK} {L : Nat} {xs : Nat → Int32} (Y : yAt K L xs) {R : zSt → zSt → Prop} (hag : ag_lose R) {SX SM : zSt} (hR : R SX SM) {x3 : Int32} (i1 : vp_in (x3 + (1 : Int32)) L) (kk : ∀ SX1 SM1, R SX1 SM1 → yX K SX1 SM1 1508 [(0, .ref K.2.2.2.2.2.2.2.2.1), (1, .ref (K.2.2.2.2.2.2.2.2.2.2.1.1 0)), (2, .ref (K.2.2.2.2.2.2.2.2.2.2.2.1 0)), (3, .int x3)] []) : yX K SX SM 1256 [(0, .ref K.2.2.2.2.2.2.2.2.1), (1, .ref (K.2.2.2.2.2.2.2.2.2.2.1.1 0)), (2, .ref (K.2.2.2.2.2.2.2.2.2.2.2.1 0)), (3, .int x3)] [] := by
  obtain ⟨r, SX1, SM1, hx, hm, hR1⟩ := hag SX SM (xs (x3 + (1 : Int32)).toNatClampNeg) hR
  refine y_aload_n Y 1 dL_law_1256 rfl rfl ?_
  refine y_aload_n Y 0 dL_law_1257 rfl rfl ?_
  refine y_iload_n Y 3 dL_law_1258 rfl rfl ?_
  refine y_iconst Y (1 : Int32) dL_law_1259 (by decide) ?_
  refine y_iadd Y dL_law_1260 ?_
  refine y_sld Y rfl i1 dL_law_1261 ?_
  refine y_callX (As := [.int (xs (x3 + (1 : Int32)).toNatClampNeg)]) (rest := []) Y 1 (k_X10_lose Y.2.2.2.1 hx) gl_X10_lose rfl rfl rfl y_X10_lose ⟨Nat.le_of_ble_eq_true rfl, Nat.le_of_ble_eq_true rfl⟩ rfl rfl (Nat.le_of_ble_eq_true rfl) dL_law_1262 ?_
  show yX K SX1 SM 1265 _ [.int r]
  refine y_aload_n Y 2 dL_law_1265 rfl rfl ?_
  refine y_aload_n Y 0 dL_law_1266 rfl rfl ?_
  refine y_iload_n Y 3 dL_law_1267 rfl rfl ?_
  refine y_iconst Y (1 : Int32) dL_law_1268 (by decide) ?_
  refine y_iadd Y dL_law_1269 ?_
  refine y_sld Y rfl i1 dL_law_1270 ?_
  refine y_callM (As := [.int (xs (x3 + (1 : Int32)).toNatClampNeg)]) (rest := [.int r]) Y 1 (k_X11_lose Y.2.2.2.2.1 hm) gl_X11_lose rfl rfl rfl y_X11_lose ⟨Nat.le_of_ble_eq_true rfl, Nat.le_of_ble_eq_true rfl⟩ rfl rfl (Nat.le_of_ble_eq_true rfl) dL_law_1271 ?_
  show yX K SX1 SM1 1274 _ [.int r, .int r]
  refine y_same Y 1508 dL_law_1274 (by decide) ?_
  exact kk _ _ hR1
set_option maxRecDepth 100000 in
set_option maxHeartbeats 4000000 in
theorem y_case34 {K : yK} {L : Nat} {xs : Nat → Int32} (Y : yAt K L xs) {R : zSt → zSt → Prop} (hag : ag_put R) {SX SM : zSt} (hR : R SX SM) {x3 : Int32} (i1 : vp_in (x3 + (1 : Int32)) L) (i2 : vp_in (x3 + (2 : Int32)) L) (i3 : vp_in (x3 + (3 : Int32)) L) (i4 : vp_in (x3 + (4 : Int32)) L) (kk : ∀ SX1 SM1, R SX1 SM1 → yX K SX1 SM1 1508 [(0, .ref K.2.2.2.2.2.2.2.2.1), (1, .ref (K.2.2.2.2.2.2.2.2.2.2.1.1 0)), (2, .ref (K.2.2.2.2.2.2.2.2.2.2.2.1 0)), (3, .int x3)] []) : yX K SX SM 1279 [(0, .ref K.2.2.2.2.2.2.2.2.1), (1, .ref (K.2.2.2.2.2.2.2.2.2.2.1.1 0)), (2, .ref (K.2.2.2.2.2.2.2.2.2.2.2.1 0)), (3, .int x3)] [] := by
  obtain ⟨r, SX1, SM1, hx, hm, hR1⟩ := hag SX SM (xs (x3 + (1 : Int32)).toNatClampNeg) (xs (x3 + (2 : Int32)).toNatClampNeg) (xs (x3 + (3 : Int32)).toNatClampNeg) (xs (x3 + (4 : Int32)).toNatClampNeg) hR
  refine y_aload_n Y 1 dL_law_1279 rfl rfl ?_
  refine y_aload_n Y 0 dL_law_1280 rfl rfl ?_
  refine y_iload_n Y 3 dL_law_1281 rfl rfl ?_
  refine y_iconst Y (1 : Int32) dL_law_1282 (by decide) ?_
  refine y_iadd Y dL_law_1283 ?_
  refine y_sld Y rfl i1 dL_law_1284 ?_
  refine y_aload_n Y 0 dL_law_1285 rfl rfl ?_
  refine y_iload_n Y 3 dL_law_1286 rfl rfl ?_
  refine y_iconst Y (2 : Int32) dL_law_1287 (by decide) ?_
  refine y_iadd Y dL_law_1288 ?_
  refine y_sld Y rfl i2 dL_law_1289 ?_
  refine y_aload_n Y 0 dL_law_1290 rfl rfl ?_
  refine y_iload_n Y 3 dL_law_1291 rfl rfl ?_
  refine y_iconst Y (3 : Int32) dL_law_1292 (by decide) ?_
  refine y_iadd Y dL_law_1293 ?_
  refine y_sld Y rfl i3 dL_law_1294 ?_
  refine y_aload_n Y 0 dL_law_1295 rfl rfl ?_
  refine y_iload_n Y 3 dL_law_1296 rfl rfl ?_
  refine y_iconst Y (4 : Int32) dL_law_1297 (by decide) ?_
  refine y_iadd Y dL_law_1298 ?_
  refine y_sld Y rfl i4 dL_law_1299 ?_
  refine y_callX (As := [.int (xs (x3 + (1 : Int32)).toNatClampNeg), .int (xs (x3 + (2 : Int32)).toNatClampNeg), .int (xs (x3 + (3 : Int32)).toNatClampNeg), .int (xs (x3 + (4 : Int32)).toNatClampNeg)]) (rest := []) Y 4 (k_X10_put Y.2.2.2.1 hx) gl_X10_put rfl rfl rfl y_X10_put ⟨Nat.le_of_ble_eq_true rfl, Nat.le_of_ble_eq_true rfl⟩ rfl rfl (Nat.le_of_ble_eq_true rfl) dL_law_1300 ?_
  show yX K SX1 SM 1303 _ [.int r]
  refine y_aload_n Y 2 dL_law_1303 rfl rfl ?_
  refine y_aload_n Y 0 dL_law_1304 rfl rfl ?_
  refine y_iload_n Y 3 dL_law_1305 rfl rfl ?_
  refine y_iconst Y (1 : Int32) dL_law_1306 (by decide) ?_
  refine y_iadd Y dL_law_1307 ?_
  refine y_sld Y rfl i1 dL_law_1308 ?_
  refine y_aload_n Y 0 dL_law_1309 rfl rfl ?_
  refine y_iload_n Y 3 dL_law_1310 rfl rfl ?_
  refine y_iconst Y (2 : Int32) dL_law_1311 (by decide) ?_
  refine y_iadd Y dL_law_1312 ?_
  refine y_sld Y rfl i2 dL_law_1313 ?_
  refine y_aload_n Y 0 dL_law_1314 rfl rfl ?_
  refine y_iload_n Y 3 dL_law_1315 rfl rfl ?_
  refine y_iconst Y (3 : Int32) dL_law_1316 (by decide) ?_
  refine y_iadd Y dL_law_1317 ?_
  refine y_sld Y rfl i3 dL_law_1318 ?_
  refine y_aload_n Y 0 dL_law_1319 rfl rfl ?_
  refine y_iload_n Y 3 dL_law_1320 rfl rfl ?_
  refine y_iconst Y (4 : Int32) dL_law_1321 (by decide) ?_
  refine y_iadd Y dL_law_1322 ?_
  refine y_sld Y rfl i4 dL_law_1323 ?_
  refine y_callM (As := [.int (xs (x3 + (1 : Int32)).toNatClampNeg), .int (xs (x3 + (2 : Int32)).toNatClampNeg), .int (xs (x3 + (3 : Int32)).toNatClampNeg), .int (xs (x3 + (4 : Int32)).toNatClampNeg)]) (rest := [.int r]) Y 4 (k_X11_put Y.2.2.2.2.1 hm) gl_X11_put rfl rfl rfl y_X11_put ⟨Nat.le_of_ble_eq_true rfl, Nat.le_of_ble_eq_true rfl⟩ rfl rfl (Nat.le_of_ble_eq_true rfl) dL_law_1324 ?_
  show yX K SX1 SM1 1327 _ [.int r, .int r]
  refine y_same Y 1508 dL_law_1327 (by decide) ?_
  exact kk _ _ hR1
set_option maxRecDepth 100000 in
set_option maxHeartbeats 4000000 in
theorem y_case35 {K : yK} {L : Nat} {xs : Nat → Int32} (Y : yAt K L xs) {R : zSt → zSt → Prop} (hag : ag_get R) {SX SM : zSt} (hR : R SX SM) {x3 : Int32} (i1 : vp_in (x3 + (1 : Int32)) L) (i2 : vp_in (x3 + (2 : Int32)) L) (i3 : vp_in (x3 + (3 : Int32)) L) (kk : ∀ SX1 SM1, R SX1 SM1 → yX K SX1 SM1 1508 [(0, .ref K.2.2.2.2.2.2.2.2.1), (1, .ref (K.2.2.2.2.2.2.2.2.2.2.1.1 0)), (2, .ref (K.2.2.2.2.2.2.2.2.2.2.2.1 0)), (3, .int x3)] []) : yX K SX SM 1332 [(0, .ref K.2.2.2.2.2.2.2.2.1), (1, .ref (K.2.2.2.2.2.2.2.2.2.2.1.1 0)), (2, .ref (K.2.2.2.2.2.2.2.2.2.2.2.1 0)), (3, .int x3)] [] := by
  obtain ⟨r, SX1, SM1, hx, hm, hR1⟩ := hag SX SM (xs (x3 + (1 : Int32)).toNatClampNeg) (xs (x3 + (2 : Int32)).toNatClampNeg) (xs (x3 + (3 : Int32)).toNatClampNeg) hR
  refine y_aload_n Y 1 dL_law_1332 rfl rfl ?_
  refine y_aload_n Y 0 dL_law_1333 rfl rfl ?_
  refine y_iload_n Y 3 dL_law_1334 rfl rfl ?_
  refine y_iconst Y (1 : Int32) dL_law_1335 (by decide) ?_
  refine y_iadd Y dL_law_1336 ?_
  refine y_sld Y rfl i1 dL_law_1337 ?_
  refine y_aload_n Y 0 dL_law_1338 rfl rfl ?_
  refine y_iload_n Y 3 dL_law_1339 rfl rfl ?_
  refine y_iconst Y (2 : Int32) dL_law_1340 (by decide) ?_
  refine y_iadd Y dL_law_1341 ?_
  refine y_sld Y rfl i2 dL_law_1342 ?_
  refine y_aload_n Y 0 dL_law_1343 rfl rfl ?_
  refine y_iload_n Y 3 dL_law_1344 rfl rfl ?_
  refine y_iconst Y (3 : Int32) dL_law_1345 (by decide) ?_
  refine y_iadd Y dL_law_1346 ?_
  refine y_sld Y rfl i3 dL_law_1347 ?_
  refine y_callX (As := [.int (xs (x3 + (1 : Int32)).toNatClampNeg), .int (xs (x3 + (2 : Int32)).toNatClampNeg), .int (xs (x3 + (3 : Int32)).toNatClampNeg)]) (rest := []) Y 3 (k_X10_get Y.2.2.2.1 hx) gl_X10_get rfl rfl rfl y_X10_get ⟨Nat.le_of_ble_eq_true rfl, Nat.le_of_ble_eq_true rfl⟩ rfl rfl (Nat.le_of_ble_eq_true rfl) dL_law_1348 ?_
  show yX K SX1 SM 1351 _ [.int r]
  refine y_aload_n Y 2 dL_law_1351 rfl rfl ?_
  refine y_aload_n Y 0 dL_law_1352 rfl rfl ?_
  refine y_iload_n Y 3 dL_law_1353 rfl rfl ?_
  refine y_iconst Y (1 : Int32) dL_law_1354 (by decide) ?_
  refine y_iadd Y dL_law_1355 ?_
  refine y_sld Y rfl i1 dL_law_1356 ?_
  refine y_aload_n Y 0 dL_law_1357 rfl rfl ?_
  refine y_iload_n Y 3 dL_law_1358 rfl rfl ?_
  refine y_iconst Y (2 : Int32) dL_law_1359 (by decide) ?_
  refine y_iadd Y dL_law_1360 ?_
  refine y_sld Y rfl i2 dL_law_1361 ?_
  refine y_aload_n Y 0 dL_law_1362 rfl rfl ?_
  refine y_iload_n Y 3 dL_law_1363 rfl rfl ?_
  refine y_iconst Y (3 : Int32) dL_law_1364 (by decide) ?_
  refine y_iadd Y dL_law_1365 ?_
  refine y_sld Y rfl i3 dL_law_1366 ?_
  refine y_callM (As := [.int (xs (x3 + (1 : Int32)).toNatClampNeg), .int (xs (x3 + (2 : Int32)).toNatClampNeg), .int (xs (x3 + (3 : Int32)).toNatClampNeg)]) (rest := [.int r]) Y 3 (k_X11_get Y.2.2.2.2.1 hm) gl_X11_get rfl rfl rfl y_X11_get ⟨Nat.le_of_ble_eq_true rfl, Nat.le_of_ble_eq_true rfl⟩ rfl rfl (Nat.le_of_ble_eq_true rfl) dL_law_1367 ?_
  show yX K SX1 SM1 1370 _ [.int r, .int r]
  refine y_same Y 1508 dL_law_1370 (by decide) ?_
  exact kk _ _ hR1
set_option maxRecDepth 100000 in
set_option maxHeartbeats 4000000 in
theorem y_case36 {K : yK} {L : Nat} {xs : Nat → Int32} (Y : yAt K L xs) {R : zSt → zSt → Prop} (hag : ag_copy R) {SX SM : zSt} (hR : R SX SM) {x3 : Int32} (i1 : vp_in (x3 + (1 : Int32)) L) (i2 : vp_in (x3 + (2 : Int32)) L) (i3 : vp_in (x3 + (3 : Int32)) L) (i4 : vp_in (x3 + (4 : Int32)) L) (i5 : vp_in (x3 + (5 : Int32)) L) (kk : ∀ SX1 SM1, R SX1 SM1 → yX K SX1 SM1 1508 [(0, .ref K.2.2.2.2.2.2.2.2.1), (1, .ref (K.2.2.2.2.2.2.2.2.2.2.1.1 0)), (2, .ref (K.2.2.2.2.2.2.2.2.2.2.2.1 0)), (3, .int x3)] []) : yX K SX SM 1375 [(0, .ref K.2.2.2.2.2.2.2.2.1), (1, .ref (K.2.2.2.2.2.2.2.2.2.2.1.1 0)), (2, .ref (K.2.2.2.2.2.2.2.2.2.2.2.1 0)), (3, .int x3)] [] := by
  obtain ⟨r, SX1, SM1, hx, hm, hR1⟩ := hag SX SM (xs (x3 + (1 : Int32)).toNatClampNeg) (xs (x3 + (2 : Int32)).toNatClampNeg) (xs (x3 + (3 : Int32)).toNatClampNeg) (xs (x3 + (4 : Int32)).toNatClampNeg) (xs (x3 + (5 : Int32)).toNatClampNeg) hR
  refine y_aload_n Y 1 dL_law_1375 rfl rfl ?_
  refine y_aload_n Y 0 dL_law_1376 rfl rfl ?_
  refine y_iload_n Y 3 dL_law_1377 rfl rfl ?_
  refine y_iconst Y (1 : Int32) dL_law_1378 (by decide) ?_
  refine y_iadd Y dL_law_1379 ?_
  refine y_sld Y rfl i1 dL_law_1380 ?_
  refine y_aload_n Y 0 dL_law_1381 rfl rfl ?_
  refine y_iload_n Y 3 dL_law_1382 rfl rfl ?_
  refine y_iconst Y (2 : Int32) dL_law_1383 (by decide) ?_
  refine y_iadd Y dL_law_1384 ?_
  refine y_sld Y rfl i2 dL_law_1385 ?_
  refine y_aload_n Y 0 dL_law_1386 rfl rfl ?_
  refine y_iload_n Y 3 dL_law_1387 rfl rfl ?_
  refine y_iconst Y (3 : Int32) dL_law_1388 (by decide) ?_
  refine y_iadd Y dL_law_1389 ?_
  refine y_sld Y rfl i3 dL_law_1390 ?_
  refine y_aload_n Y 0 dL_law_1391 rfl rfl ?_
  refine y_iload_n Y 3 dL_law_1392 rfl rfl ?_
  refine y_iconst Y (4 : Int32) dL_law_1393 (by decide) ?_
  refine y_iadd Y dL_law_1394 ?_
  refine y_sld Y rfl i4 dL_law_1395 ?_
  refine y_aload_n Y 0 dL_law_1396 rfl rfl ?_
  refine y_iload_n Y 3 dL_law_1397 rfl rfl ?_
  refine y_iconst Y (5 : Int32) dL_law_1398 (by decide) ?_
  refine y_iadd Y dL_law_1399 ?_
  refine y_sld Y rfl i5 dL_law_1400 ?_
  refine y_callX (As := [.int (xs (x3 + (1 : Int32)).toNatClampNeg), .int (xs (x3 + (2 : Int32)).toNatClampNeg), .int (xs (x3 + (3 : Int32)).toNatClampNeg), .int (xs (x3 + (4 : Int32)).toNatClampNeg), .int (xs (x3 + (5 : Int32)).toNatClampNeg)]) (rest := []) Y 5 (k_X10_copy Y.2.2.2.1 hx) gl_X10_copy rfl rfl rfl y_X10_copy ⟨Nat.le_of_ble_eq_true rfl, Nat.le_of_ble_eq_true rfl⟩ rfl rfl (Nat.le_of_ble_eq_true rfl) dL_law_1401 ?_
  show yX K SX1 SM 1404 _ [.int r]
  refine y_aload_n Y 2 dL_law_1404 rfl rfl ?_
  refine y_aload_n Y 0 dL_law_1405 rfl rfl ?_
  refine y_iload_n Y 3 dL_law_1406 rfl rfl ?_
  refine y_iconst Y (1 : Int32) dL_law_1407 (by decide) ?_
  refine y_iadd Y dL_law_1408 ?_
  refine y_sld Y rfl i1 dL_law_1409 ?_
  refine y_aload_n Y 0 dL_law_1410 rfl rfl ?_
  refine y_iload_n Y 3 dL_law_1411 rfl rfl ?_
  refine y_iconst Y (2 : Int32) dL_law_1412 (by decide) ?_
  refine y_iadd Y dL_law_1413 ?_
  refine y_sld Y rfl i2 dL_law_1414 ?_
  refine y_aload_n Y 0 dL_law_1415 rfl rfl ?_
  refine y_iload_n Y 3 dL_law_1416 rfl rfl ?_
  refine y_iconst Y (3 : Int32) dL_law_1417 (by decide) ?_
  refine y_iadd Y dL_law_1418 ?_
  refine y_sld Y rfl i3 dL_law_1419 ?_
  refine y_aload_n Y 0 dL_law_1420 rfl rfl ?_
  refine y_iload_n Y 3 dL_law_1421 rfl rfl ?_
  refine y_iconst Y (4 : Int32) dL_law_1422 (by decide) ?_
  refine y_iadd Y dL_law_1423 ?_
  refine y_sld Y rfl i4 dL_law_1424 ?_
  refine y_aload_n Y 0 dL_law_1425 rfl rfl ?_
  refine y_iload_n Y 3 dL_law_1426 rfl rfl ?_
  refine y_iconst Y (5 : Int32) dL_law_1427 (by decide) ?_
  refine y_iadd Y dL_law_1428 ?_
  refine y_sld Y rfl i5 dL_law_1429 ?_
  refine y_callM (As := [.int (xs (x3 + (1 : Int32)).toNatClampNeg), .int (xs (x3 + (2 : Int32)).toNatClampNeg), .int (xs (x3 + (3 : Int32)).toNatClampNeg), .int (xs (x3 + (4 : Int32)).toNatClampNeg), .int (xs (x3 + (5 : Int32)).toNatClampNeg)]) (rest := [.int r]) Y 5 (k_X11_copy Y.2.2.2.2.1 hm) gl_X11_copy rfl rfl rfl y_X11_copy ⟨Nat.le_of_ble_eq_true rfl, Nat.le_of_ble_eq_true rfl⟩ rfl rfl (Nat.le_of_ble_eq_true rfl) dL_law_1430 ?_
  show yX K SX1 SM1 1433 _ [.int r, .int r]
  refine y_same Y 1508 dL_law_1433 (by decide) ?_
  exact kk _ _ hR1
set_option maxRecDepth 100000 in
set_option maxHeartbeats 4000000 in
theorem y_case37 {K : yK} {L : Nat} {xs : Nat → Int32} (Y : yAt K L xs) {R : zSt → zSt → Prop} (hag : ag_write R) {SX SM : zSt} (hR : R SX SM) {x3 : Int32} (i1 : vp_in (x3 + (1 : Int32)) L) (i2 : vp_in (x3 + (2 : Int32)) L) (kk : ∀ SX1 SM1, R SX1 SM1 → yX K SX1 SM1 1508 [(0, .ref K.2.2.2.2.2.2.2.2.1), (1, .ref (K.2.2.2.2.2.2.2.2.2.2.1.1 0)), (2, .ref (K.2.2.2.2.2.2.2.2.2.2.2.1 0)), (3, .int x3)] []) : yX K SX SM 1438 [(0, .ref K.2.2.2.2.2.2.2.2.1), (1, .ref (K.2.2.2.2.2.2.2.2.2.2.1.1 0)), (2, .ref (K.2.2.2.2.2.2.2.2.2.2.2.1 0)), (3, .int x3)] [] := by
  obtain ⟨r, SX1, SM1, hx, hm, hR1⟩ := hag SX SM (xs (x3 + (1 : Int32)).toNatClampNeg) (xs (x3 + (2 : Int32)).toNatClampNeg) hR
  refine y_aload_n Y 1 dL_law_1438 rfl rfl ?_
  refine y_aload_n Y 0 dL_law_1439 rfl rfl ?_
  refine y_iload_n Y 3 dL_law_1440 rfl rfl ?_
  refine y_iconst Y (1 : Int32) dL_law_1441 (by decide) ?_
  refine y_iadd Y dL_law_1442 ?_
  refine y_sld Y rfl i1 dL_law_1443 ?_
  refine y_aload_n Y 0 dL_law_1444 rfl rfl ?_
  refine y_iload_n Y 3 dL_law_1445 rfl rfl ?_
  refine y_iconst Y (2 : Int32) dL_law_1446 (by decide) ?_
  refine y_iadd Y dL_law_1447 ?_
  refine y_sld Y rfl i2 dL_law_1448 ?_
  refine y_callX (As := [.int (xs (x3 + (1 : Int32)).toNatClampNeg), .int (xs (x3 + (2 : Int32)).toNatClampNeg)]) (rest := []) Y 2 (k_X10_write Y.2.2.2.1 hx) gl_X10_write rfl rfl rfl y_X10_write ⟨Nat.le_of_ble_eq_true rfl, Nat.le_of_ble_eq_true rfl⟩ rfl rfl (Nat.le_of_ble_eq_true rfl) dL_law_1449 ?_
  show yX K SX1 SM 1452 _ [.int r]
  refine y_aload_n Y 2 dL_law_1452 rfl rfl ?_
  refine y_aload_n Y 0 dL_law_1453 rfl rfl ?_
  refine y_iload_n Y 3 dL_law_1454 rfl rfl ?_
  refine y_iconst Y (1 : Int32) dL_law_1455 (by decide) ?_
  refine y_iadd Y dL_law_1456 ?_
  refine y_sld Y rfl i1 dL_law_1457 ?_
  refine y_aload_n Y 0 dL_law_1458 rfl rfl ?_
  refine y_iload_n Y 3 dL_law_1459 rfl rfl ?_
  refine y_iconst Y (2 : Int32) dL_law_1460 (by decide) ?_
  refine y_iadd Y dL_law_1461 ?_
  refine y_sld Y rfl i2 dL_law_1462 ?_
  refine y_callM (As := [.int (xs (x3 + (1 : Int32)).toNatClampNeg), .int (xs (x3 + (2 : Int32)).toNatClampNeg)]) (rest := [.int r]) Y 2 (k_X11_write Y.2.2.2.2.1 hm) gl_X11_write rfl rfl rfl y_X11_write ⟨Nat.le_of_ble_eq_true rfl, Nat.le_of_ble_eq_true rfl⟩ rfl rfl (Nat.le_of_ble_eq_true rfl) dL_law_1463 ?_
  show yX K SX1 SM1 1466 _ [.int r, .int r]
  refine y_same Y 1508 dL_law_1466 (by decide) ?_
  exact kk _ _ hR1
set_option maxRecDepth 100000 in
set_option maxHeartbeats 4000000 in
theorem y_case38 {K : yK} {L : Nat} {xs : Nat → Int32} (Y : yAt K L xs) {R : zSt → zSt → Prop} (hag : ag_count R) {SX SM : zSt} (hR : R SX SM) {x3 : Int32} (i1 : vp_in (x3 + (1 : Int32)) L) (kk : ∀ SX1 SM1, R SX1 SM1 → yX K SX1 SM1 1508 [(0, .ref K.2.2.2.2.2.2.2.2.1), (1, .ref (K.2.2.2.2.2.2.2.2.2.2.1.1 0)), (2, .ref (K.2.2.2.2.2.2.2.2.2.2.2.1 0)), (3, .int x3)] []) : yX K SX SM 1471 [(0, .ref K.2.2.2.2.2.2.2.2.1), (1, .ref (K.2.2.2.2.2.2.2.2.2.2.1.1 0)), (2, .ref (K.2.2.2.2.2.2.2.2.2.2.2.1 0)), (3, .int x3)] [] := by
  obtain ⟨r, hx, hm⟩ := hag SX SM (xs (x3 + (1 : Int32)).toNatClampNeg) hR
  refine y_aload_n Y 1 dL_law_1471 rfl rfl ?_
  refine y_aload_n Y 0 dL_law_1472 rfl rfl ?_
  refine y_iload_n Y 3 dL_law_1473 rfl rfl ?_
  refine y_iconst Y (1 : Int32) dL_law_1474 (by decide) ?_
  refine y_iadd Y dL_law_1475 ?_
  refine y_sld Y rfl i1 dL_law_1476 ?_
  refine y_callX (As := [.int (xs (x3 + (1 : Int32)).toNatClampNeg)]) (rest := []) Y 1 (k_X10_count Y.2.2.2.1 hx) gl_X10_count rfl rfl rfl y_X10_count ⟨Nat.le_of_ble_eq_true rfl, Nat.le_of_ble_eq_true rfl⟩ rfl rfl (Nat.le_of_ble_eq_true rfl) dL_law_1477 ?_
  show yX K SX SM 1480 _ [.int r]
  refine y_aload_n Y 2 dL_law_1480 rfl rfl ?_
  refine y_aload_n Y 0 dL_law_1481 rfl rfl ?_
  refine y_iload_n Y 3 dL_law_1482 rfl rfl ?_
  refine y_iconst Y (1 : Int32) dL_law_1483 (by decide) ?_
  refine y_iadd Y dL_law_1484 ?_
  refine y_sld Y rfl i1 dL_law_1485 ?_
  refine y_callM (As := [.int (xs (x3 + (1 : Int32)).toNatClampNeg)]) (rest := [.int r]) Y 1 (k_X11_count Y.2.2.2.2.1 hm) gl_X11_count rfl rfl rfl y_X11_count ⟨Nat.le_of_ble_eq_true rfl, Nat.le_of_ble_eq_true rfl⟩ rfl rfl (Nat.le_of_ble_eq_true rfl) dL_law_1486 ?_
  show yX K SX SM 1489 _ [.int r, .int r]
  refine y_same Y 1508 dL_law_1489 (by decide) ?_
  exact kk _ _ hR
set_option maxRecDepth 100000 in
set_option maxHeartbeats 4000000 in
theorem y_case39 {K : yK} {L : Nat} {xs : Nat → Int32} (Y : yAt K L xs) {R : zSt → zSt → Prop} (hag : ag_digest R) {SX SM : zSt} (hR : R SX SM) {x3 : Int32}  (kk : ∀ SX1 SM1, R SX1 SM1 → yX K SX1 SM1 1508 [(0, .ref K.2.2.2.2.2.2.2.2.1), (1, .ref (K.2.2.2.2.2.2.2.2.2.2.1.1 0)), (2, .ref (K.2.2.2.2.2.2.2.2.2.2.2.1 0)), (3, .int x3)] []) : yX K SX SM 1494 [(0, .ref K.2.2.2.2.2.2.2.2.1), (1, .ref (K.2.2.2.2.2.2.2.2.2.2.1.1 0)), (2, .ref (K.2.2.2.2.2.2.2.2.2.2.2.1 0)), (3, .int x3)] [] := by
  obtain ⟨r, SX1, SM1, hx, hm, hR1⟩ := hag SX SM  hR
  refine y_aload_n Y 1 dL_law_1494 rfl rfl ?_
  refine y_callX (As := []) (rest := []) Y 0 (k_X10_digest Y.2.2.2.1 hx) gl_X10_digest rfl rfl rfl y_X10_digest ⟨Nat.le_of_ble_eq_true rfl, Nat.le_of_ble_eq_true rfl⟩ rfl rfl (Nat.le_of_ble_eq_true rfl) dL_law_1495 ?_
  show yX K SX1 SM 1498 _ [.long r]
  refine y_aload_n Y 2 dL_law_1498 rfl rfl ?_
  refine y_callM (As := []) (rest := [.long r]) Y 0 (k_X11_digest Y.2.2.2.2.1 hm) gl_X11_digest rfl rfl rfl y_X11_digest ⟨Nat.le_of_ble_eq_true rfl, Nat.le_of_ble_eq_true rfl⟩ rfl rfl (Nat.le_of_ble_eq_true rfl) dL_law_1499 ?_
  show yX K SX1 SM1 1502 _ [.long r, .long r]
  refine y_samel Y 1508 dL_law_1502 dL_law_1503 (by decide) ?_
  exact kk _ _ hR1
theorem y_nIsub {L i : Nat} (hL : L ≤ 3072) (hi : i ≤ 3078) : (nI L - 6 < nI i) ↔ L < i + 6 := by
  have e : (nI L - 6).toInt = (L : Int) - 6 := by
    have := pk_sub_toInt (a := L) (b := 6) (by omega) (by omega)
    exact this
  rw [Int32.lt_iff_toInt_lt, e, nI_toInt (by omega)]
  omega
theorem y_in {L i k : Nat} (hL : L ≤ 3072) (h : i + 6 ≤ L) (hk : k < 6) : vp_in (nI i + nI k) L := by
  rw [nI_add]
  exact vp_in_nI (by omega) (by omega)
set_option maxRecDepth 100000 in
set_option maxHeartbeats 4000000 in
theorem y_loop {K : yK} {L : Nat} {xs : Nat → Int32} (Y : yAt K L xs) (hL : L ≤ 3072) {R : zSt → zSt → Prop} (hag : yAg R) : ∀ (n i : Nat) (x3 : Int32) (SX SM : zSt), i ≤ 3078 → L < i + n → x3 = nI i → R SX SM → yX K SX SM 18 [(0, .ref K.2.2.2.2.2.2.2.2.1), (1, .ref (K.2.2.2.2.2.2.2.2.2.2.1.1 0)), (2, .ref (K.2.2.2.2.2.2.2.2.2.2.2.1 0)), (3, .int x3)] [] := by
  intro n
  induction n with
  | zero =>
    intro i x3 SX SM hi hn e hR
    refine y_iload_n Y 3 dL_law_18 rfl rfl ?_
    refine y_aload_n Y 0 dL_law_19 rfl rfl ?_
    refine y_slen Y rfl dL_law_20 ?_
    refine y_bipush Y 6 dL_law_21 (by decide) ?_
    refine y_isub Y dL_law_23 ?_
    refine y_icmp_gt Y 1514 dL_law_24 (by decide) (fun _ => ?_) (fun h => absurd (by rw [e]; exact (y_nIsub hL hi).mpr (by omega)) h)
    refine y_iconst Y 1 dL_law_1514 (by decide) ?_
    exact y_ret Y dL_law_1515
  | succ n ih =>
    intro i x3 SX SM hi hn e hR
    refine y_iload_n Y 3 dL_law_18 rfl rfl ?_
    refine y_aload_n Y 0 dL_law_19 rfl rfl ?_
    refine y_slen Y rfl dL_law_20 ?_
    refine y_bipush Y 6 dL_law_21 (by decide) ?_
    refine y_isub Y dL_law_23 ?_
    refine y_icmp_gt Y 1514 dL_law_24 (by decide) (fun _ => ?_) (fun h => ?_)
    · refine y_iconst Y 1 dL_law_1514 (by decide) ?_
      exact y_ret Y dL_law_1515
    have h6 : i + 6 ≤ L := by
      have : ¬ L < i + 6 := fun q => h (by rw [e]; exact (y_nIsub hL hi).mpr q)
      omega
    have i0 : vp_in x3 L := by rw [e]; exact vp_in_nI (by omega) (by omega)
    have i1 : vp_in (x3 + (1 : Int32)) L := by rw [e]; exact y_in (k := 1) hL h6 (by omega)
    have i2 : vp_in (x3 + (2 : Int32)) L := by rw [e]; exact y_in (k := 2) hL h6 (by omega)
    have i3 : vp_in (x3 + (3 : Int32)) L := by rw [e]; exact y_in (k := 3) hL h6 (by omega)
    have i4 : vp_in (x3 + (4 : Int32)) L := by rw [e]; exact y_in (k := 4) hL h6 (by omega)
    have i5 : vp_in (x3 + (5 : Int32)) L := by rw [e]; exact y_in (k := 5) hL h6 (by omega)
    have nx : ∀ SX1 SM1, R SX1 SM1 → yX K SX1 SM1 1508 [(0, .ref K.2.2.2.2.2.2.2.2.1), (1, .ref (K.2.2.2.2.2.2.2.2.2.2.1.1 0)), (2, .ref (K.2.2.2.2.2.2.2.2.2.2.2.1 0)), (3, .int x3)] [] := fun SX1 SM1 hR1 => by
      obtain ⟨x6, e6⟩ : ∃ x6 : Int32, x6 = x3 + 6 := ⟨_, rfl⟩
      refine y_iinc (lv' := [(3, .int x6), (0, .ref K.2.2.2.2.2.2.2.2.1), (1, .ref (K.2.2.2.2.2.2.2.2.2.2.1.1 0)), (2, .ref (K.2.2.2.2.2.2.2.2.2.2.2.1 0))]) Y 3 x6 dL_law_1508 rfl (by rw [e6]; rfl) (by decide) rfl ?_
      refine y_goto Y 18 dL_law_1511 (by decide) ?_
      refine y_sub [1, 2, 3, 0] rfl ?_
      exact ih (i + 6) x6 SX1 SM1 (by omega) (by omega) (by rw [e6, e]; exact nI_add i 6) hR1
    refine y_aload_n Y 0 dL_law_27 rfl rfl ?_
    refine y_iload_n Y 3 dL_law_28 rfl rfl ?_
    refine y_sld Y rfl i0 dL_law_29 ?_
    refine y_bipush Y 63 dL_law_30 (by decide) ?_
    refine y_iand Y dL_law_32 ?_
    generalize xs x3.toNatClampNeg &&& 63 = cs
    refine y_swc (0 : Int32) ?_ (fun h0 => ?_)
    · refine y_tabIn Y 208 dL_law_33 (by decide) (by decide) rfl (by decide) ?_
      exact y_case0 Y hag.1 hR i1 nx
    refine y_swc (1 : Int32) ?_ (fun h1 => ?_)
    · refine y_tabIn Y 231 dL_law_33 (by decide) (by decide) rfl (by decide) ?_
      exact y_case1 Y hag.2.1 hR  nx
    refine y_swc (2 : Int32) ?_ (fun h2 => ?_)
    · refine y_tabIn Y 244 dL_law_33 (by decide) (by decide) rfl (by decide) ?_
      exact y_case2 Y hag.2.2.1 hR  nx
    refine y_swc (3 : Int32) ?_ (fun h3 => ?_)
    · refine y_tabIn Y 257 dL_law_33 (by decide) (by decide) rfl (by decide) ?_
      exact y_case3 Y hag.2.2.2.1 hR i1 nx
    refine y_swc (4 : Int32) ?_ (fun h4 => ?_)
    · refine y_tabIn Y 280 dL_law_33 (by decide) (by decide) rfl (by decide) ?_
      exact y_case4 Y hag.2.2.2.2.1 hR i1 i2 nx
    refine y_swc (5 : Int32) ?_ (fun h5 => ?_)
    · refine y_tabIn Y 313 dL_law_33 (by decide) (by decide) rfl (by decide) ?_
      exact y_case5 Y hag.2.2.2.2.2.1 hR i1 i2 nx
    refine y_swc (6 : Int32) ?_ (fun h6 => ?_)
    · refine y_tabIn Y 346 dL_law_33 (by decide) (by decide) rfl (by decide) ?_
      exact y_case6 Y hag.2.2.2.2.2.2.1 hR i1 i2 i3 nx
    refine y_swc (7 : Int32) ?_ (fun h7 => ?_)
    · refine y_tabIn Y 390 dL_law_33 (by decide) (by decide) rfl (by decide) ?_
      exact y_case7 Y hag.2.2.2.2.2.2.2.1 hR i1 i2 i3 nx
    refine y_swc (8 : Int32) ?_ (fun h8 => ?_)
    · refine y_tabIn Y 433 dL_law_33 (by decide) (by decide) rfl (by decide) ?_
      exact y_case8 Y hag.2.2.2.2.2.2.2.2.1 hR i1 i2 nx
    refine y_swc (9 : Int32) ?_ (fun h9 => ?_)
    · refine y_tabIn Y 466 dL_law_33 (by decide) (by decide) rfl (by decide) ?_
      exact y_case9 Y hag.2.2.2.2.2.2.2.2.2.1 hR i1 i2 nx
    refine y_swc (10 : Int32) ?_ (fun h10 => ?_)
    · refine y_tabIn Y 499 dL_law_33 (by decide) (by decide) rfl (by decide) ?_
      exact y_case10 Y hag.2.2.2.2.2.2.2.2.2.2.1 hR i1 i2 nx
    refine y_swc (11 : Int32) ?_ (fun h11 => ?_)
    · refine y_tabIn Y 532 dL_law_33 (by decide) (by decide) rfl (by decide) ?_
      exact y_case11 Y hag.2.2.2.2.2.2.2.2.2.2.2.1 hR i1 nx
    refine y_swc (12 : Int32) ?_ (fun h12 => ?_)
    · refine y_tabIn Y 555 dL_law_33 (by decide) (by decide) rfl (by decide) ?_
      exact y_case12 Y hag.2.2.2.2.2.2.2.2.2.2.2.2.1 hR i1 nx
    refine y_swc (13 : Int32) ?_ (fun h13 => ?_)
    · refine y_tabIn Y 578 dL_law_33 (by decide) (by decide) rfl (by decide) ?_
      exact y_case13 Y hag.2.2.2.2.2.2.2.2.2.2.2.2.2.1 hR i1 i2 i3 nx
    refine y_swc (14 : Int32) ?_ (fun h14 => ?_)
    · refine y_tabIn Y 622 dL_law_33 (by decide) (by decide) rfl (by decide) ?_
      exact y_case14 Y hag.2.2.2.2.2.2.2.2.2.2.2.2.2.2.1 hR i1 i2 nx
    refine y_swc (15 : Int32) ?_ (fun h15 => ?_)
    · refine y_tabIn Y 656 dL_law_33 (by decide) (by decide) rfl (by decide) ?_
      exact y_case15 Y hag.2.2.2.2.2.2.2.2.2.2.2.2.2.2.2.1 hR i1 i2 i3 nx
    refine y_swc (16 : Int32) ?_ (fun h16 => ?_)
    · refine y_tabIn Y 699 dL_law_33 (by decide) (by decide) rfl (by decide) ?_
      exact y_case16 Y hag.2.2.2.2.2.2.2.2.2.2.2.2.2.2.2.2.1 hR i1 i2 nx
    refine y_swc (17 : Int32) ?_ (fun h17 => ?_)
    · refine y_tabIn Y 733 dL_law_33 (by decide) (by decide) rfl (by decide) ?_
      exact y_case17 Y hag.2.2.2.2.2.2.2.2.2.2.2.2.2.2.2.2.2.1 hR  nx
    refine y_swc (18 : Int32) ?_ (fun h18 => ?_)
    · refine y_tabIn Y 746 dL_law_33 (by decide) (by decide) rfl (by decide) ?_
      exact y_case18 Y hag.2.2.2.2.2.2.2.2.2.2.2.2.2.2.2.2.2.2.1 hR i1 i2 nx
    refine y_swc (19 : Int32) ?_ (fun h19 => ?_)
    · refine y_tabIn Y 779 dL_law_33 (by decide) (by decide) rfl (by decide) ?_
      exact y_case19 Y hag.2.2.2.2.2.2.2.2.2.2.2.2.2.2.2.2.2.2.2.1 hR i1 i2 nx
    refine y_swc (20 : Int32) ?_ (fun h20 => ?_)
    · refine y_tabIn Y 812 dL_law_33 (by decide) (by decide) rfl (by decide) ?_
      exact y_case20 Y hag.2.2.2.2.2.2.2.2.2.2.2.2.2.2.2.2.2.2.2.2.1 hR i1 i2 i3 nx
    refine y_swc (21 : Int32) ?_ (fun h21 => ?_)
    · refine y_tabIn Y 855 dL_law_33 (by decide) (by decide) rfl (by decide) ?_
      exact y_case21 Y hag.2.2.2.2.2.2.2.2.2.2.2.2.2.2.2.2.2.2.2.2.2.1 hR i1 i2 i3 i4 nx
    refine y_swc (22 : Int32) ?_ (fun h22 => ?_)
    · refine y_tabIn Y 909 dL_law_33 (by decide) (by decide) rfl (by decide) ?_
      exact y_case22 Y hag.2.2.2.2.2.2.2.2.2.2.2.2.2.2.2.2.2.2.2.2.2.2.1 hR i1 nx
    refine y_swc (23 : Int32) ?_ (fun h23 => ?_)
    · refine y_tabIn Y 932 dL_law_33 (by decide) (by decide) rfl (by decide) ?_
      exact y_case23 Y hag.2.2.2.2.2.2.2.2.2.2.2.2.2.2.2.2.2.2.2.2.2.2.2.1 hR i1 i2 i3 nx
    refine y_swc (24 : Int32) ?_ (fun h24 => ?_)
    · refine y_tabIn Y 975 dL_law_33 (by decide) (by decide) rfl (by decide) ?_
      exact y_case24 Y hag.2.2.2.2.2.2.2.2.2.2.2.2.2.2.2.2.2.2.2.2.2.2.2.2.1 hR i1 i2 nx
    refine y_swc (25 : Int32) ?_ (fun h25 => ?_)
    · refine y_tabIn Y 1009 dL_law_33 (by decide) (by decide) rfl (by decide) ?_
      exact y_case25 Y hag.2.2.2.2.2.2.2.2.2.2.2.2.2.2.2.2.2.2.2.2.2.2.2.2.2.1 hR  nx
    refine y_swc (26 : Int32) ?_ (fun h26 => ?_)
    · refine y_tabIn Y 1022 dL_law_33 (by decide) (by decide) rfl (by decide) ?_
      exact y_case26 Y hag.2.2.2.2.2.2.2.2.2.2.2.2.2.2.2.2.2.2.2.2.2.2.2.2.2.2.1 hR i1 i2 nx
    refine y_swc (27 : Int32) ?_ (fun h27 => ?_)
    · refine y_tabIn Y 1056 dL_law_33 (by decide) (by decide) rfl (by decide) ?_
      exact y_case27 Y hag.2.2.2.2.2.2.2.2.2.2.2.2.2.2.2.2.2.2.2.2.2.2.2.2.2.2.2.1 hR i1 i2 nx
    refine y_swc (28 : Int32) ?_ (fun h28 => ?_)
    · refine y_tabIn Y 1089 dL_law_33 (by decide) (by decide) rfl (by decide) ?_
      exact y_case28 Y hag.2.2.2.2.2.2.2.2.2.2.2.2.2.2.2.2.2.2.2.2.2.2.2.2.2.2.2.2.1 hR i1 nx
    refine y_swc (29 : Int32) ?_ (fun h29 => ?_)
    · refine y_tabIn Y 1112 dL_law_33 (by decide) (by decide) rfl (by decide) ?_
      exact y_case29 Y hag.2.2.2.2.2.2.2.2.2.2.2.2.2.2.2.2.2.2.2.2.2.2.2.2.2.2.2.2.2.1 hR  nx
    refine y_swc (30 : Int32) ?_ (fun h30 => ?_)
    · refine y_tabIn Y 1125 dL_law_33 (by decide) (by decide) rfl (by decide) ?_
      exact y_case30 Y hag.2.2.2.2.2.2.2.2.2.2.2.2.2.2.2.2.2.2.2.2.2.2.2.2.2.2.2.2.2.2.1 hR i1 i2 i3 nx
    refine y_swc (31 : Int32) ?_ (fun h31 => ?_)
    · refine y_tabIn Y 1169 dL_law_33 (by decide) (by decide) rfl (by decide) ?_
      exact y_case31 Y hag.2.2.2.2.2.2.2.2.2.2.2.2.2.2.2.2.2.2.2.2.2.2.2.2.2.2.2.2.2.2.2.1 hR i1 i2 i3 nx
    refine y_swc (32 : Int32) ?_ (fun h32 => ?_)
    · refine y_tabIn Y 1213 dL_law_33 (by decide) (by decide) rfl (by decide) ?_
      exact y_case32 Y hag.2.2.2.2.2.2.2.2.2.2.2.2.2.2.2.2.2.2.2.2.2.2.2.2.2.2.2.2.2.2.2.2.1 hR i1 i2 i3 nx
    refine y_swc (33 : Int32) ?_ (fun h33 => ?_)
    · refine y_tabIn Y 1256 dL_law_33 (by decide) (by decide) rfl (by decide) ?_
      exact y_case33 Y hag.2.2.2.2.2.2.2.2.2.2.2.2.2.2.2.2.2.2.2.2.2.2.2.2.2.2.2.2.2.2.2.2.2.1 hR i1 nx
    refine y_swc (34 : Int32) ?_ (fun h34 => ?_)
    · refine y_tabIn Y 1279 dL_law_33 (by decide) (by decide) rfl (by decide) ?_
      exact y_case34 Y hag.2.2.2.2.2.2.2.2.2.2.2.2.2.2.2.2.2.2.2.2.2.2.2.2.2.2.2.2.2.2.2.2.2.2.1 hR i1 i2 i3 i4 nx
    refine y_swc (35 : Int32) ?_ (fun h35 => ?_)
    · refine y_tabIn Y 1332 dL_law_33 (by decide) (by decide) rfl (by decide) ?_
      exact y_case35 Y hag.2.2.2.2.2.2.2.2.2.2.2.2.2.2.2.2.2.2.2.2.2.2.2.2.2.2.2.2.2.2.2.2.2.2.2.1 hR i1 i2 i3 nx
    refine y_swc (36 : Int32) ?_ (fun h36 => ?_)
    · refine y_tabIn Y 1375 dL_law_33 (by decide) (by decide) rfl (by decide) ?_
      exact y_case36 Y hag.2.2.2.2.2.2.2.2.2.2.2.2.2.2.2.2.2.2.2.2.2.2.2.2.2.2.2.2.2.2.2.2.2.2.2.2.1 hR i1 i2 i3 i4 i5 nx
    refine y_swc (37 : Int32) ?_ (fun h37 => ?_)
    · refine y_tabIn Y 1438 dL_law_33 (by decide) (by decide) rfl (by decide) ?_
      exact y_case37 Y hag.2.2.2.2.2.2.2.2.2.2.2.2.2.2.2.2.2.2.2.2.2.2.2.2.2.2.2.2.2.2.2.2.2.2.2.2.2.1 hR i1 i2 nx
    refine y_swc (38 : Int32) ?_ (fun h38 => ?_)
    · refine y_tabIn Y 1471 dL_law_33 (by decide) (by decide) rfl (by decide) ?_
      exact y_case38 Y hag.2.2.2.2.2.2.2.2.2.2.2.2.2.2.2.2.2.2.2.2.2.2.2.2.2.2.2.2.2.2.2.2.2.2.2.2.2.2.1 hR i1 nx
    refine y_swc (39 : Int32) ?_ (fun h39 => ?_)
    · refine y_tabIn Y 1494 dL_law_33 (by decide) (by decide) rfl (by decide) ?_
      exact y_case39 Y hag.2.2.2.2.2.2.2.2.2.2.2.2.2.2.2.2.2.2.2.2.2.2.2.2.2.2.2.2.2.2.2.2.2.2.2.2.2.2.2 hR  nx
    refine y_tabOut Y 1508 dL_law_33 (by have z0 := lv_neT h0 (a := 0) (by decide); have z1 := lv_neT h1 (a := 1) (by decide); have z2 := lv_neT h2 (a := 2) (by decide); have z3 := lv_neT h3 (a := 3) (by decide); have z4 := lv_neT h4 (a := 4) (by decide); have z5 := lv_neT h5 (a := 5) (by decide); have z6 := lv_neT h6 (a := 6) (by decide); have z7 := lv_neT h7 (a := 7) (by decide); have z8 := lv_neT h8 (a := 8) (by decide); have z9 := lv_neT h9 (a := 9) (by decide); have z10 := lv_neT h10 (a := 10) (by decide); have z11 := lv_neT h11 (a := 11) (by decide); have z12 := lv_neT h12 (a := 12) (by decide); have z13 := lv_neT h13 (a := 13) (by decide); have z14 := lv_neT h14 (a := 14) (by decide); have z15 := lv_neT h15 (a := 15) (by decide); have z16 := lv_neT h16 (a := 16) (by decide); have z17 := lv_neT h17 (a := 17) (by decide); have z18 := lv_neT h18 (a := 18) (by decide); have z19 := lv_neT h19 (a := 19) (by decide); have z20 := lv_neT h20 (a := 20) (by decide); have z21 := lv_neT h21 (a := 21) (by decide); have z22 := lv_neT h22 (a := 22) (by decide); have z23 := lv_neT h23 (a := 23) (by decide); have z24 := lv_neT h24 (a := 24) (by decide); have z25 := lv_neT h25 (a := 25) (by decide); have z26 := lv_neT h26 (a := 26) (by decide); have z27 := lv_neT h27 (a := 27) (by decide); have z28 := lv_neT h28 (a := 28) (by decide); have z29 := lv_neT h29 (a := 29) (by decide); have z30 := lv_neT h30 (a := 30) (by decide); have z31 := lv_neT h31 (a := 31) (by decide); have z32 := lv_neT h32 (a := 32) (by decide); have z33 := lv_neT h33 (a := 33) (by decide); have z34 := lv_neT h34 (a := 34) (by decide); have z35 := lv_neT h35 (a := 35) (by decide); have z36 := lv_neT h36 (a := 36) (by decide); have z37 := lv_neT h37 (a := 37) (by decide); have z38 := lv_neT h38 (a := 38) (by decide); have z39 := lv_neT h39 (a := 39) (by decide); omega) (by decide) ?_
    exact nx SX SM hR
