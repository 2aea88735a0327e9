-- the law's helpers
/-- behind a helper: out holds the answer where the number is 0; beyond the object nothing else has changed -/
abbrev hp (B : Nat) (h : mi_H) (O : Nat) (c : mi_C) (code : Int32) (h1 : mi_H) : Prop := h.1 ≤ h1.1 ∧ (∀ b, B + 518 ≤ b → b < h.1 → b ≠ O → h1.2 b = h.2 b) ∧ (code = 0 → h1.2 O = c)
theorem hp.thr {B O : Nat} {h : mi_H} {c x : mi_C} {code : Int32} (hn : ¬ code = 0) : hp B h O c code (mi_psh h x) := ⟨Nat.le_succ _, fun _ _ hl _ => mi_psh_lt hl, fun e => absurd e hn⟩
theorem hp.ret {B O : Nat} {h h1 : mi_H} {c : mi_C} (f : fr B h h1) : hp B h O c 0 (mi_set h1 O c) := ⟨by show h.1 ≤ h1.1; rw [f.1]; exact Nat.le_refl _, fun b hb _ hn => (mi_set_ne hn).trans (f.2 b (Or.inr hb)), fun _ => mi_set_self⟩
abbrev oL (g : Nat → Int64) : mi_C := .inl (1, 1, .inr (.inl g))
abbrev oD (g : Nat → UInt64) : mi_C := .inl (2, 1, .inr (.inr (.inr (.inl g))))
section MOO
variable {QX : Nat → Nat → mi_H → Prop} {X : mi_X} {k0 d mc ms pc : Nat} {lv : mi_L} {st : List Value} {h : mi_H} {Q : Option Value → mi_H → Prop} {tb : List (Nat × Instr)}
theorem mo_lst (ht : mi_tb (pP.2.2.2.1 k0).2.1 tb) {a : Nat} {g : Nat → Int64} {x : Int64} (hi : mi_at tb pc = some .lastore) (hE : 6 ≤ a) (ha : a < h.1) (hc : h.2 a = oL g) (kk : mi_WX QX pP X k0 d mc ms (pc + 1) lv st (mi_set h a (oL (va_up g 0 x))) Q) : mi_WX QX pP X k0 d mc ms pc lv (.long x :: .int 0 :: .ref a :: st) h Q := by
  refine mi_last ht (t := 1) hi rfl hE ha hc (show vp_in (nI 0) 1 from vp_in_lt (by decide) (by decide)) ?_
  rw [show (0 : Int32).toNatClampNeg = 0 by decide]
  exact kk
theorem mo_dst (ht : mi_tb (pP.2.2.2.1 k0).2.1 tb) {a : Nat} {g : Nat → UInt64} {x : UInt64} (hi : mi_at tb pc = some .dastore) (hE : 6 ≤ a) (ha : a < h.1) (hc : h.2 a = oD g) (kk : mi_WX QX pP X k0 d mc ms (pc + 1) lv st (mi_set h a (oD (va_up g 0 x))) Q) : mi_WX QX pP X k0 d mc ms pc lv (.double x :: .int 0 :: .ref a :: st) h Q := by
  refine mi_dast ht (t := 2) hi rfl hE ha hc (show vp_in (nI 0) 1 from vp_in_lt (by decide) (by decide)) ?_
  rw [show (0 : Int32).toNatClampNeg = 0 by decide]
  exact kk
theorem mo_lld (ht : mi_tb (pP.2.2.2.1 k0).2.1 tb) {a : Nat} {g : Nat → Int64} (hi : mi_at tb pc = some .laload) (hE : 6 ≤ a) (ha : a < h.1) (hc : h.2 a = oL g) (kk : mi_WX QX pP X k0 d mc ms (pc + 1) lv (.long (g 0) :: st) h Q) : mi_WX QX pP X k0 d mc ms pc lv (.int 0 :: .ref a :: st) h Q := by
  refine mi_lald ht (t := 1) hi rfl hE ha hc (show vp_in (nI 0) 1 from vp_in_lt (by decide) (by decide)) ?_
  rw [show (0 : Int32).toNatClampNeg = 0 by decide]
  exact kk
theorem mo_dld (ht : mi_tb (pP.2.2.2.1 k0).2.1 tb) {a : Nat} {g : Nat → UInt64} (hi : mi_at tb pc = some .daload) (hE : 6 ≤ a) (ha : a < h.1) (hc : h.2 a = oD g) (kk : mi_WX QX pP X k0 d mc ms (pc + 1) lv (.double (g 0) :: st) h Q) : mi_WX QX pP X k0 d mc ms pc lv (.int 0 :: .ref a :: st) h Q := by
  refine mi_dald ht (t := 2) hi rfl hE ha hc (show vp_in (nI 0) 1 from vp_in_lt (by decide) (by decide)) ?_
  rw [show (0 : Int32).toNatClampNeg = 0 by decide]
  exact kk
end MOO
/-- rows of a table that name another class -/
theorem ps_0 {E : String} {k pc : Nat} : ∀ z ∈ ([] : List ExceptionTableEntry), covers z pc = false ∨ (z.catchType ≠ 0 ∧ ∃ nm : String, Cond.classLink (pP.2.2.2.1 k).1.cls z.catchType nm ∈ pP.2.1 ∧ ∀ (b0 : Nat) (U : State) (H : Heap), pP.2.2.2.2.2.2.2.2 b0 U H → va_Nc E nm U) := fun z hz => nomatch hz
theorem ps_c {E nm : String} {k pc : Nat} {x : ExceptionTableEntry} {l : List ExceptionTableEntry} (h0 : x.catchType ≠ 0) (hl : Cond.classLink (pP.2.2.2.1 k).1.cls x.catchType nm ∈ pP.2.1) (hn : ∀ (b0 : Nat) (U : State) (H : Heap), pP.2.2.2.2.2.2.2.2 b0 U H → va_Nc E nm U) (t : ∀ z ∈ l, covers z pc = false ∨ (z.catchType ≠ 0 ∧ ∃ nm : String, Cond.classLink (pP.2.2.2.1 k).1.cls z.catchType nm ∈ pP.2.1 ∧ ∀ (b0 : Nat) (U : State) (H : Heap), pP.2.2.2.2.2.2.2.2 b0 U H → va_Nc E nm U)) :
    ∀ z ∈ x :: l, covers z pc = false ∨ (z.catchType ≠ 0 ∧ ∃ nm : String, Cond.classLink (pP.2.2.2.1 k).1.cls z.catchType nm ∈ pP.2.1 ∧ ∀ (b0 : Nat) (U : State) (H : Heap), pP.2.2.2.2.2.2.2.2 b0 U H → va_Nc E nm U) := by
  intro z hz
  rcases List.mem_cons.mp hz with rfl | hz
  · exact Or.inr ⟨h0, nm, hl, hn⟩
  · exact t z hz
set_option maxHeartbeats 4000000 in
set_option maxRecDepth 100000 in
theorem e_session {X : mi_X} {h : mi_H} {B : Nat} (hw : ph_W B ph_0 (fun _ _ => 0) (fun _ _ => 0) h) {O : Nat} (hO : B + 518 ≤ O ∧ O < h.1) {g : Nat → Int64} (hOc : h.2 O = oL g) : mi_SH pP X kL_session 8 [.ref B, .ref O] h 1 6 (fun r h1 => r = some (.int 0) ∧ hp B h O (oL (va_up g 0 ((0 : Int32).toInt64))) 0 h1) := by
  refine ehL_session (Nat.le_of_ble_eq_true rfl) ?_
  refine mi_blk okL_session 3 (pc' := 3) (lv' := [(0, .ref B), (1, .ref O)]) (st' := [.ref B, .int 0, .ref O]) rfl ?_
  refine mi_callV okL_session (mc := 1) (ms := 6) (mc' := 0) (ms' := 0) (b := B) (As := []) (st := [.int 0, .ref O]) rfl cv_RL_7 rfl (by decide) (show 6 ≤ _ by have := hw.z; omega) (show _ < h.1 by have := hw.z; omega) hw.ph rfl (Nat.le_of_ble_eq_true rfl) (c_session hw) (fun r h1 q => ?_)
  obtain ⟨rfl, e9⟩ := q; have f : fr B h h1 := ⟨e9.2.1, e9.2.2⟩
  change mi_WX _ pP X kL_session 8 1 6 6 [(0, .ref B), (1, .ref O)] [.int 0, .int 0, .ref O] h1 _
  refine mi_blk okL_session 1 (pc' := 7) (lv' := [(0, .ref B), (1, .ref O)]) (st' := [.long ((0 : Int32).toInt64), .int 0, .ref O]) rfl ?_
  refine mo_lst okL_session rfl (show 6 ≤ O by have := hw.z; omega) (by rw [f.1]; exact hO.2) ((f.2 O (Or.inr hO.1)).trans hOc) ?_
  refine mi_blk okL_session 1 (pc' := 14) (lv' := [(0, .ref B), (1, .ref O)]) (st' := []) rfl ?_
  refine mi_blk okL_session 1 (pc' := 15) (lv' := [(0, .ref B), (1, .ref O)]) (st' := [.int 0]) rfl ?_
  exact mi_ret_i okL_session rfl rfl rfl ⟨rfl, hp.ret f⟩
set_option maxHeartbeats 4000000 in
set_option maxRecDepth 100000 in
theorem e_track_a {X : mi_X} {h : mi_H} {B : Nat} (hw : ph_W B ph_0 (fun _ _ => 0) (fun _ _ => 0) h) {O : Nat} (hO : B + 518 ≤ O ∧ O < h.1) {g : Nat → Int64} (hOc : h.2 O = oL g) {x y : Int32} (hx : (¬ x = 0 ∧ ¬ x = 1) ∨ y < 1 ∨ (40 : Int32) < y) : mi_SH pP X kL_track 8 [.ref B, .int x, .int y, .ref O] h 1 6 (fun r h1 => r = some (.int 1) ∧ hp B h O (oL g) 1 h1) := by
  refine ehL_track (Nat.le_of_ble_eq_true rfl) ?_
  refine mi_blk okL_track 5 (pc' := 5) (lv' := [(0, .ref B), (1, .int x), (2, .int y), (3, .ref O)]) (st' := [.int y, .int x, .ref B, .int 0, .ref O]) rfl ?_
  refine mi_callVX okL_track (mc := 0) (ms := 0) (mc' := 1) (ms' := 6) (b := B) (As := [.int x, .int y]) (st := [.int 0, .ref O]) rfl cv_RL_15 rfl (by decide) (show 6 ≤ _ by have := hw.z; omega) (show _ < h.1 by have := hw.z; omega) hw.ph rfl (Nat.le_of_ble_eq_true rfl) (x_track_a hw hx) (fun r h1 q => q.elim) (fun ce a h1 c1 q => ?_)
  obtain ⟨e8, e9⟩ := q; subst e8; subst e9
  refine mi_TX.take (E := "java/lang/IllegalArgumentException") (nm := "java/lang/IllegalArgumentException") c1 rfl ([]) _ _ rfl ps_0 rfl (by decide) cl_RL_19 ca_IllegalArgumentException ?_
  change mi_WX _ pP X kL_track 8 0 0 13 [(0, .ref B), (1, .int x), (2, .int y), (3, .ref O)] [.ref a] (mi_psh h (.inr (11, []))) _
  refine mi_blk okL_track 1 (pc' := 15) (lv' := [(4, .ref a), (0, .ref B), (1, .int x), (2, .int y), (3, .ref O)]) (st' := []) rfl ?_
  refine mi_blk okL_track 1 (pc' := 16) (lv' := [(4, .ref a), (0, .ref B), (1, .int x), (2, .int y), (3, .ref O)]) (st' := [.int 1]) rfl ?_
  exact mi_ret_i okL_track rfl rfl rfl ⟨rfl, hp.thr (by decide)⟩
set_option maxHeartbeats 4000000 in
set_option maxRecDepth 100000 in
theorem e_track_s {X : mi_X} {h : mi_H} {B : Nat} (hw : ph_W B ph_0 (fun _ _ => 0) (fun _ _ => 0) h) {O : Nat} (hO : B + 518 ≤ O ∧ O < h.1) {g : Nat → Int64} (hOc : h.2 O = oL g) {x y : Int32} (hx : x = 0 ∨ x = 1) (hy : ¬ y < 1) (hz : y ≤ (40 : Int32)) : mi_SH pP X kL_track 8 [.ref B, .int x, .int y, .ref O] h 1 6 (fun r h1 => r = some (.int 2) ∧ hp B h O (oL g) 2 h1) := by
  refine ehL_track (Nat.le_of_ble_eq_true rfl) ?_
  refine mi_blk okL_track 5 (pc' := 5) (lv' := [(0, .ref B), (1, .int x), (2, .int y), (3, .ref O)]) (st' := [.int y, .int x, .ref B, .int 0, .ref O]) rfl ?_
  refine mi_callVX okL_track (mc := 0) (ms := 0) (mc' := 1) (ms' := 6) (b := B) (As := [.int x, .int y]) (st := [.int 0, .ref O]) rfl cv_RL_15 rfl (by decide) (show 6 ≤ _ by have := hw.z; omega) (show _ < h.1 by have := hw.z; omega) hw.ph rfl (Nat.le_of_ble_eq_true rfl) (x_track_s hw hx hy hz) (fun r h1 q => q.elim) (fun ce a h1 c1 q => ?_)
  obtain ⟨e8, e9⟩ := q; subst e8; subst e9
  refine mi_TX.take (E := "java/lang/IllegalStateException") (nm := "java/lang/IllegalStateException") c1 rfl (tableOf [(0, 10, 13, 19)]) _ _ rfl (ps_c (by decide) cl_RL_19 (fun _ _ _ h => h.2.2.2.2.1) ps_0) rfl (by decide) cl_RL_13 ca_IllegalStateException ?_
  change mi_WX _ pP X kL_track 8 0 0 17 [(0, .ref B), (1, .int x), (2, .int y), (3, .ref O)] [.ref a] (mi_psh h (.inr (10, []))) _
  refine mi_blk okL_track 1 (pc' := 19) (lv' := [(4, .ref a), (0, .ref B), (1, .int x), (2, .int y), (3, .ref O)]) (st' := []) rfl ?_
  refine mi_blk okL_track 1 (pc' := 20) (lv' := [(4, .ref a), (0, .ref B), (1, .int x), (2, .int y), (3, .ref O)]) (st' := [.int 2]) rfl ?_
  exact mi_ret_i okL_track rfl rfl rfl ⟨rfl, hp.thr (by decide)⟩
set_option maxHeartbeats 4000000 in
set_option maxRecDepth 100000 in
theorem e_write {X : mi_X} {h : mi_H} {B : Nat} (hw : ph_W B ph_0 (fun _ _ => 0) (fun _ _ => 0) h) {O : Nat} (hO : B + 518 ≤ O ∧ O < h.1) {g : Nat → Int64} (hOc : h.2 O = oL g) {x : Int32} {n : Int64} : mi_SH pP X kL_write 8 [.ref B, .int x, .long n, .ref O] h 1 6 (fun r h1 => r = some (.int 1) ∧ hp B h O (oL g) 1 h1) := by
  refine ehL_write (Nat.le_of_ble_eq_true rfl) ?_
  refine mi_blk okL_write 5 (pc' := 6) (lv' := [(0, .ref B), (1, .int x), (2, .long n), (4, .ref O)]) (st' := [.long n, .int x, .ref B, .int 0, .ref O]) rfl ?_
  refine mi_callVX okL_write (mc := 0) (ms := 0) (mc' := 1) (ms' := 6) (b := B) (As := [.int x, .long n]) (st := [.int 0, .ref O]) rfl cv_RL_21 rfl (by decide) (show 6 ≤ _ by have := hw.z; omega) (show _ < h.1 by have := hw.z; omega) hw.ph rfl (Nat.le_of_ble_eq_true rfl) (x_write hw) (fun r h1 q => q.elim) (fun ce a h1 c1 q => ?_)
  obtain ⟨e8, e9⟩ := q; subst e8; subst e9
  refine mi_TX.take (E := "java/lang/IndexOutOfBoundsException") (nm := "java/lang/IndexOutOfBoundsException") c1 rfl ([]) _ _ rfl ps_0 rfl (by decide) cl_RL_25 ca_IndexOutOfBoundsException ?_
  change mi_WX _ pP X kL_write 8 0 0 14 [(0, .ref B), (1, .int x), (2, .long n), (4, .ref O)] [.ref a] (mi_psh h (.inr (12, []))) _
  refine mi_blk okL_write 1 (pc' := 16) (lv' := [(5, .ref a), (0, .ref B), (1, .int x), (2, .long n), (4, .ref O)]) (st' := []) rfl ?_
  refine mi_blk okL_write 1 (pc' := 17) (lv' := [(5, .ref a), (0, .ref B), (1, .int x), (2, .long n), (4, .ref O)]) (st' := [.int 1]) rfl ?_
  exact mi_ret_i okL_write rfl rfl rfl ⟨rfl, hp.thr (by decide)⟩
set_option maxHeartbeats 4000000 in
set_option maxRecDepth 100000 in
theorem e_starve {X : mi_X} {h : mi_H} {B : Nat} (hw : ph_W B ph_0 (fun _ _ => 0) (fun _ _ => 0) h) {O : Nat} (hO : B + 518 ≤ O ∧ O < h.1) {g : Nat → Int64} (hOc : h.2 O = oL g) {x : Int32} : mi_SH pP X kL_starve 8 [.ref B, .int x, .ref O] h 1 6 (fun r h1 => r = some (.int 1) ∧ hp B h O (oL g) 1 h1) := by
  refine ehL_starve (Nat.le_of_ble_eq_true rfl) ?_
  refine mi_blk okL_starve 4 (pc' := 4) (lv' := [(0, .ref B), (1, .int x), (2, .ref O)]) (st' := [.int x, .ref B, .int 0, .ref O]) rfl ?_
  refine mi_callVX okL_starve (mc := 0) (ms := 0) (mc' := 1) (ms' := 6) (b := B) (As := [.int x]) (st := [.int 0, .ref O]) rfl cv_RL_27 rfl (by decide) (show 6 ≤ _ by have := hw.z; omega) (show _ < h.1 by have := hw.z; omega) hw.ph rfl (Nat.le_of_ble_eq_true rfl) (x_starve hw) (fun r h1 q => q.elim) (fun ce a h1 c1 q => ?_)
  obtain ⟨e8, e9⟩ := q; subst e8; subst e9
  refine mi_TX.take (E := "java/lang/IndexOutOfBoundsException") (nm := "java/lang/IndexOutOfBoundsException") c1 rfl ([]) _ _ rfl ps_0 rfl (by decide) cl_RL_25 ca_IndexOutOfBoundsException ?_
  change mi_WX _ pP X kL_starve 8 0 0 12 [(0, .ref B), (1, .int x), (2, .ref O)] [.ref a] (mi_psh h (.inr (12, []))) _
  refine mi_blk okL_starve 1 (pc' := 13) (lv' := [(3, .ref a), (0, .ref B), (1, .int x), (2, .ref O)]) (st' := []) rfl ?_
  refine mi_blk okL_starve 1 (pc' := 14) (lv' := [(3, .ref a), (0, .ref B), (1, .int x), (2, .ref O)]) (st' := [.int 1]) rfl ?_
  exact mi_ret_i okL_starve rfl rfl rfl ⟨rfl, hp.thr (by decide)⟩
set_option maxHeartbeats 4000000 in
set_option maxRecDepth 100000 in
theorem e_close {X : mi_X} {h : mi_H} {B : Nat} (hw : ph_W B ph_0 (fun _ _ => 0) (fun _ _ => 0) h) {O : Nat} (hO : B + 518 ≤ O ∧ O < h.1) {g : Nat → Int64} (hOc : h.2 O = oL g) {x : Int32} : mi_SH pP X kL_close 8 [.ref B, .int x, .ref O] h 1 6 (fun r h1 => r = some (.int 1) ∧ hp B h O (oL g) 1 h1) := by
  refine ehL_close (Nat.le_of_ble_eq_true rfl) ?_
  refine mi_blk okL_close 4 (pc' := 4) (lv' := [(0, .ref B), (1, .int x), (2, .ref O)]) (st' := [.int x, .ref B, .int 0, .ref O]) rfl ?_
  refine mi_callVX okL_close (mc := 0) (ms := 0) (mc' := 1) (ms' := 6) (b := B) (As := [.int x]) (st := [.int 0, .ref O]) rfl cv_RL_31 rfl (by decide) (show 6 ≤ _ by have := hw.z; omega) (show _ < h.1 by have := hw.z; omega) hw.ph rfl (Nat.le_of_ble_eq_true rfl) (x_close hw) (fun r h1 q => q.elim) (fun ce a h1 c1 q => ?_)
  obtain ⟨e8, e9⟩ := q; subst e8; subst e9
  refine mi_TX.take (E := "java/lang/IndexOutOfBoundsException") (nm := "java/lang/IndexOutOfBoundsException") c1 rfl ([]) _ _ rfl ps_0 rfl (by decide) cl_RL_25 ca_IndexOutOfBoundsException ?_
  change mi_WX _ pP X kL_close 8 0 0 12 [(0, .ref B), (1, .int x), (2, .ref O)] [.ref a] (mi_psh h (.inr (12, []))) _
  refine mi_blk okL_close 1 (pc' := 13) (lv' := [(3, .ref a), (0, .ref B), (1, .int x), (2, .ref O)]) (st' := []) rfl ?_
  refine mi_blk okL_close 1 (pc' := 14) (lv' := [(3, .ref a), (0, .ref B), (1, .int x), (2, .ref O)]) (st' := [.int 1]) rfl ?_
  exact mi_ret_i okL_close rfl rfl rfl ⟨rfl, hp.thr (by decide)⟩
set_option maxHeartbeats 4000000 in
set_option maxRecDepth 100000 in
theorem e_end {X : mi_X} {h : mi_H} {B : Nat} (hw : ph_W B ph_0 (fun _ _ => 0) (fun _ _ => 0) h) {O : Nat} (hO : B + 518 ≤ O ∧ O < h.1) {g : Nat → Int64} (hOc : h.2 O = oL g) : mi_SH pP X kL_end 8 [.ref B, .ref O] h 1 6 (fun r h1 => r = some (.int 1) ∧ hp B h O (oL g) 1 h1) := by
  refine ehL_end (Nat.le_of_ble_eq_true rfl) ?_
  refine mi_blk okL_end 3 (pc' := 3) (lv' := [(0, .ref B), (1, .ref O)]) (st' := [.ref B, .int 0, .ref O]) rfl ?_
  refine mi_callVX okL_end (mc := 0) (ms := 0) (mc' := 1) (ms' := 6) (b := B) (As := []) (st := [.int 0, .ref O]) rfl cv_RL_34 rfl (by decide) (show 6 ≤ _ by have := hw.z; omega) (show _ < h.1 by have := hw.z; omega) hw.ph rfl (Nat.le_of_ble_eq_true rfl) (x_end hw) (fun r h1 q => q.elim) (fun ce a h1 c1 q => ?_)
  obtain ⟨e8, e9⟩ := q; subst e8; subst e9
  refine mi_TX.take (E := "java/lang/IllegalStateException") (nm := "java/lang/IllegalStateException") c1 rfl ([]) _ _ rfl ps_0 rfl (by decide) cl_RL_13 ca_IllegalStateException ?_
  change mi_WX _ pP X kL_end 8 0 0 11 [(0, .ref B), (1, .ref O)] [.ref a] (mi_psh h (.inr (10, []))) _
  refine mi_blk okL_end 1 (pc' := 12) (lv' := [(2, .ref a), (0, .ref B), (1, .ref O)]) (st' := []) rfl ?_
  refine mi_blk okL_end 1 (pc' := 13) (lv' := [(2, .ref a), (0, .ref B), (1, .ref O)]) (st' := [.int 1]) rfl ?_
  exact mi_ret_i okL_end rfl rfl rfl ⟨rfl, hp.thr (by decide)⟩
set_option maxHeartbeats 4000000 in
set_option maxRecDepth 100000 in
theorem e_ofTrack {X : mi_X} {h : mi_H} {B : Nat} (hw : ph_W B ph_0 (fun _ _ => 0) (fun _ _ => 0) h) {O : Nat} (hO : B + 518 ≤ O ∧ O < h.1) {g : Nat → Int64} (hOc : h.2 O = oL g) {x y : Int32} : mi_SH pP X kL_ofTrack 8 [.ref B, .int x, .int y, .ref O] h 1 6 (fun r h1 => r = some (.int 1) ∧ hp B h O (oL g) 1 h1) := by
  refine ehL_ofTrack (Nat.le_of_ble_eq_true rfl) ?_
  refine mi_blk okL_ofTrack 5 (pc' := 5) (lv' := [(0, .ref B), (1, .int x), (2, .int y), (3, .ref O)]) (st' := [.int y, .int x, .ref B, .int 0, .ref O]) rfl ?_
  refine mi_callVX okL_ofTrack (mc := 0) (ms := 0) (mc' := 1) (ms' := 6) (b := B) (As := [.int x, .int y]) (st := [.int 0, .ref O]) rfl cv_RL_68 rfl (by decide) (show 6 ≤ _ by have := hw.z; omega) (show _ < h.1 by have := hw.z; omega) hw.ph rfl (Nat.le_of_ble_eq_true rfl) (x_ofTrack hw) (fun r h1 q => q.elim) (fun ce a h1 c1 q => ?_)
  obtain ⟨e8, e9⟩ := q; subst e8; subst e9
  refine mi_TX.take (E := "java/lang/IndexOutOfBoundsException") (nm := "java/lang/IndexOutOfBoundsException") c1 rfl ([]) _ _ rfl ps_0 rfl (by decide) cl_RL_25 ca_IndexOutOfBoundsException ?_
  change mi_WX _ pP X kL_ofTrack 8 0 0 13 [(0, .ref B), (1, .int x), (2, .int y), (3, .ref O)] [.ref a] (mi_psh h (.inr (12, []))) _
  refine mi_blk okL_ofTrack 1 (pc' := 15) (lv' := [(4, .ref a), (0, .ref B), (1, .int x), (2, .int y), (3, .ref O)]) (st' := []) rfl ?_
  refine mi_blk okL_ofTrack 1 (pc' := 16) (lv' := [(4, .ref a), (0, .ref B), (1, .int x), (2, .int y), (3, .ref O)]) (st' := [.int 1]) rfl ?_
  exact mi_ret_i okL_ofTrack rfl rfl rfl ⟨rfl, hp.thr (by decide)⟩
set_option maxHeartbeats 4000000 in
set_option maxRecDepth 100000 in
theorem e_read_s {X : mi_X} {h : mi_H} {B : Nat} (hw : ph_W B ph_0 (fun _ _ => 0) (fun _ _ => 0) h) {O : Nat} (hO : B + 518 ≤ O ∧ O < h.1) {g : Nat → Int64} (hOc : h.2 O = oL g) {x : Int32} (hx : x < 0 ∨ (240 : Int32) ≤ x) : mi_SH pP X kL_read 8 [.ref B, .int x, .ref O] h 1 6 (fun r h1 => r = some (.int 1) ∧ hp B h O (oL g) 1 h1) := by
  refine ehL_read (Nat.le_of_ble_eq_true rfl) ?_
  refine mi_blk okL_read 4 (pc' := 4) (lv' := [(0, .ref B), (1, .int x), (2, .ref O)]) (st' := [.int x, .ref B, .int 0, .ref O]) rfl ?_
  refine mi_callVX okL_read (mc := 0) (ms := 0) (mc' := 1) (ms' := 6) (b := B) (As := [.int x]) (st := [.int 0, .ref O]) rfl cv_RL_48 rfl (by decide) (show 6 ≤ _ by have := hw.z; omega) (show _ < h.1 by have := hw.z; omega) hw.ph rfl (Nat.le_of_ble_eq_true rfl) (x_read_s hw hx) (fun r h1 q => q.elim) (fun ce a h1 c1 q => ?_)
  obtain ⟨e8, e9⟩ := q; subst e8; subst e9
  refine mi_TX.take (E := "java/lang/IndexOutOfBoundsException") (nm := "java/lang/IndexOutOfBoundsException") c1 rfl ([]) _ _ rfl ps_0 rfl (by decide) cl_RL_25 ca_IndexOutOfBoundsException ?_
  change mi_WX _ pP X kL_read 8 0 0 12 [(0, .ref B), (1, .int x), (2, .ref O)] [.ref a] (mi_psh h (.inr (12, []))) _
  refine mi_blk okL_read 1 (pc' := 13) (lv' := [(3, .ref a), (0, .ref B), (1, .int x), (2, .ref O)]) (st' := []) rfl ?_
  refine mi_blk okL_read 1 (pc' := 14) (lv' := [(3, .ref a), (0, .ref B), (1, .int x), (2, .ref O)]) (st' := [.int 1]) rfl ?_
  exact mi_ret_i okL_read rfl rfl rfl ⟨rfl, hp.thr (by decide)⟩
set_option maxHeartbeats 4000000 in
set_option maxRecDepth 100000 in
theorem e_seek_s {X : mi_X} {h : mi_H} {B : Nat} (hw : ph_W B ph_0 (fun _ _ => 0) (fun _ _ => 0) h) {O : Nat} (hO : B + 518 ≤ O ∧ O < h.1) {g : Nat → UInt64} (hOc : h.2 O = oD g) {x : Int32} (hx : x < 0 ∨ (240 : Int32) ≤ x) : mi_SH pP X kL_seek 8 [.ref B, .int x, .ref O] h 1 6 (fun r h1 => r = some (.int 1) ∧ hp B h O (oD g) 1 h1) := by
  refine ehL_seek (Nat.le_of_ble_eq_true rfl) ?_
  refine mi_blk okL_seek 4 (pc' := 4) (lv' := [(0, .ref B), (1, .int x), (2, .ref O)]) (st' := [.int x, .ref B, .int 0, .ref O]) rfl ?_
  refine mi_callVX okL_seek (mc := 0) (ms := 0) (mc' := 1) (ms' := 6) (b := B) (As := [.int x]) (st := [.int 0, .ref O]) rfl cv_RL_51 rfl (by decide) (show 6 ≤ _ by have := hw.z; omega) (show _ < h.1 by have := hw.z; omega) hw.ph rfl (Nat.le_of_ble_eq_true rfl) (x_seek_s hw hx) (fun r h1 q => q.elim) (fun ce a h1 c1 q => ?_)
  obtain ⟨e8, e9⟩ := q; subst e8; subst e9
  refine mi_TX.take (E := "java/lang/IndexOutOfBoundsException") (nm := "java/lang/IndexOutOfBoundsException") c1 rfl ([]) _ _ rfl ps_0 rfl (by decide) cl_RL_25 ca_IndexOutOfBoundsException ?_
  change mi_WX _ pP X kL_seek 8 0 0 11 [(0, .ref B), (1, .int x), (2, .ref O)] [.ref a] (mi_psh h (.inr (12, []))) _
  refine mi_blk okL_seek 1 (pc' := 12) (lv' := [(3, .ref a), (0, .ref B), (1, .int x), (2, .ref O)]) (st' := []) rfl ?_
  refine mi_blk okL_seek 1 (pc' := 13) (lv' := [(3, .ref a), (0, .ref B), (1, .int x), (2, .ref O)]) (st' := [.int 1]) rfl ?_
  exact mi_ret_i okL_seek rfl rfl rfl ⟨rfl, hp.thr (by decide)⟩
set_option maxHeartbeats 4000000 in
set_option maxRecDepth 100000 in
theorem e_angle_s {X : mi_X} {h : mi_H} {B : Nat} (hw : ph_W B ph_0 (fun _ _ => 0) (fun _ _ => 0) h) {O : Nat} (hO : B + 518 ≤ O ∧ O < h.1) {g : Nat → UInt64} (hOc : h.2 O = oD g) {x : Int32} (hx : x < 0 ∨ (240 : Int32) ≤ x) : mi_SH pP X kL_angle 8 [.ref B, .int x, .ref O] h 1 6 (fun r h1 => r = some (.int 1) ∧ hp B h O (oD g) 1 h1) := by
  refine ehL_angle (Nat.le_of_ble_eq_true rfl) ?_
  refine mi_blk okL_angle 4 (pc' := 4) (lv' := [(0, .ref B), (1, .int x), (2, .ref O)]) (st' := [.int x, .ref B, .int 0, .ref O]) rfl ?_
  refine mi_callVX okL_angle (mc := 0) (ms := 0) (mc' := 1) (ms' := 6) (b := B) (As := [.int x]) (st := [.int 0, .ref O]) rfl cv_RL_55 rfl (by decide) (show 6 ≤ _ by have := hw.z; omega) (show _ < h.1 by have := hw.z; omega) hw.ph rfl (Nat.le_of_ble_eq_true rfl) (x_angle_s hw hx) (fun r h1 q => q.elim) (fun ce a h1 c1 q => ?_)
  obtain ⟨e8, e9⟩ := q; subst e8; subst e9
  refine mi_TX.take (E := "java/lang/IndexOutOfBoundsException") (nm := "java/lang/IndexOutOfBoundsException") c1 rfl ([]) _ _ rfl ps_0 rfl (by decide) cl_RL_25 ca_IndexOutOfBoundsException ?_
  change mi_WX _ pP X kL_angle 8 0 0 11 [(0, .ref B), (1, .int x), (2, .ref O)] [.ref a] (mi_psh h (.inr (12, []))) _
  refine mi_blk okL_angle 1 (pc' := 12) (lv' := [(3, .ref a), (0, .ref B), (1, .int x), (2, .ref O)]) (st' := []) rfl ?_
  refine mi_blk okL_angle 1 (pc' := 13) (lv' := [(3, .ref a), (0, .ref B), (1, .int x), (2, .ref O)]) (st' := [.int 1]) rfl ?_
  exact mi_ret_i okL_angle rfl rfl rfl ⟨rfl, hp.thr (by decide)⟩
set_option maxHeartbeats 4000000 in
set_option maxRecDepth 100000 in
theorem e_play_s {X : mi_X} {h : mi_H} {B : Nat} (hw : ph_W B ph_0 (fun _ _ => 0) (fun _ _ => 0) h) {O : Nat} (hO : B + 518 ≤ O ∧ O < h.1) {g : Nat → UInt64} (hOc : h.2 O = oD g) {x : Int32} (hx : x < 0 ∨ (240 : Int32) ≤ x) : mi_SH pP X kL_play 8 [.ref B, .int x, .ref O] h 1 6 (fun r h1 => r = some (.int 1) ∧ hp B h O (oD g) 1 h1) := by
  refine ehL_play (Nat.le_of_ble_eq_true rfl) ?_
  refine mi_blk okL_play 4 (pc' := 4) (lv' := [(0, .ref B), (1, .int x), (2, .ref O)]) (st' := [.int x, .ref B, .int 0, .ref O]) rfl ?_
  refine mi_callVX okL_play (mc := 0) (ms := 0) (mc' := 1) (ms' := 6) (b := B) (As := [.int x]) (st := [.int 0, .ref O]) rfl cv_RL_74 rfl (by decide) (show 6 ≤ _ by have := hw.z; omega) (show _ < h.1 by have := hw.z; omega) hw.ph rfl (Nat.le_of_ble_eq_true rfl) (x_play_s hw hx) (fun r h1 q => q.elim) (fun ce a h1 c1 q => ?_)
  obtain ⟨e8, e9⟩ := q; subst e8; subst e9
  refine mi_TX.take (E := "java/lang/IndexOutOfBoundsException") (nm := "java/lang/IndexOutOfBoundsException") c1 rfl ([]) _ _ rfl ps_0 rfl (by decide) cl_RL_25 ca_IndexOutOfBoundsException ?_
  change mi_WX _ pP X kL_play 8 0 0 11 [(0, .ref B), (1, .int x), (2, .ref O)] [.ref a] (mi_psh h (.inr (12, []))) _
  refine mi_blk okL_play 1 (pc' := 12) (lv' := [(3, .ref a), (0, .ref B), (1, .int x), (2, .ref O)]) (st' := []) rfl ?_
  refine mi_blk okL_play 1 (pc' := 13) (lv' := [(3, .ref a), (0, .ref B), (1, .int x), (2, .ref O)]) (st' := [.int 1]) rfl ?_
  exact mi_ret_i okL_play rfl rfl rfl ⟨rfl, hp.thr (by decide)⟩
set_option maxHeartbeats 4000000 in
set_option maxRecDepth 100000 in
theorem e_ofSector_s {X : mi_X} {h : mi_H} {B : Nat} (hw : ph_W B ph_0 (fun _ _ => 0) (fun _ _ => 0) h) {O : Nat} (hO : B + 518 ≤ O ∧ O < h.1) {g : Nat → Int64} (hOc : h.2 O = oL g) {x y : Int32} (hx : x < 0 ∨ (240 : Int32) ≤ x) : mi_SH pP X kL_ofSector 8 [.ref B, .int x, .int y, .ref O] h 1 6 (fun r h1 => r = some (.int 1) ∧ hp B h O (oL g) 1 h1) := by
  refine ehL_ofSector (Nat.le_of_ble_eq_true rfl) ?_
  refine mi_blk okL_ofSector 5 (pc' := 5) (lv' := [(0, .ref B), (1, .int x), (2, .int y), (3, .ref O)]) (st' := [.int y, .int x, .ref B, .int 0, .ref O]) rfl ?_
  refine mi_callVX okL_ofSector (mc := 0) (ms := 0) (mc' := 1) (ms' := 6) (b := B) (As := [.int x, .int y]) (st := [.int 0, .ref O]) rfl cv_RL_58 rfl (by decide) (show 6 ≤ _ by have := hw.z; omega) (show _ < h.1 by have := hw.z; omega) hw.ph rfl (Nat.le_of_ble_eq_true rfl) (x_ofSector_s hw hx) (fun r h1 q => q.elim) (fun ce a h1 c1 q => ?_)
  obtain ⟨e8, e9⟩ := q; subst e8; subst e9
  refine mi_TX.take (E := "java/lang/IndexOutOfBoundsException") (nm := "java/lang/IndexOutOfBoundsException") c1 rfl ([]) _ _ rfl ps_0 rfl (by decide) cl_RL_25 ca_IndexOutOfBoundsException ?_
  change mi_WX _ pP X kL_ofSector 8 0 0 13 [(0, .ref B), (1, .int x), (2, .int y), (3, .ref O)] [.ref a] (mi_psh h (.inr (12, []))) _
  refine mi_blk okL_ofSector 1 (pc' := 15) (lv' := [(4, .ref a), (0, .ref B), (1, .int x), (2, .int y), (3, .ref O)]) (st' := []) rfl ?_
  refine mi_blk okL_ofSector 1 (pc' := 16) (lv' := [(4, .ref a), (0, .ref B), (1, .int x), (2, .int y), (3, .ref O)]) (st' := [.int 1]) rfl ?_
  exact mi_ret_i okL_ofSector rfl rfl rfl ⟨rfl, hp.thr (by decide)⟩
set_option maxHeartbeats 4000000 in
set_option maxRecDepth 100000 in
theorem e_nibbles_s {X : mi_X} {h : mi_H} {B : Nat} (hw : ph_W B ph_0 (fun _ _ => 0) (fun _ _ => 0) h) {O : Nat} (hO : B + 518 ≤ O ∧ O < h.1) {g : Nat → Int64} (hOc : h.2 O = oL g) {x y : Int32} (hx : x < 0 ∨ (240 : Int32) ≤ x) : mi_SH pP X kL_nibbles 8 [.ref B, .int x, .int y, .ref O] h 1 6 (fun r h1 => r = some (.int 1) ∧ hp B h O (oL g) 1 h1) := by
  refine ehL_nibbles (Nat.le_of_ble_eq_true rfl) ?_
  refine mi_blk okL_nibbles 5 (pc' := 5) (lv' := [(0, .ref B), (1, .int x), (2, .int y), (3, .ref O)]) (st' := [.int y, .int x, .ref B, .int 0, .ref O]) rfl ?_
  refine mi_callVX okL_nibbles (mc := 0) (ms := 0) (mc' := 1) (ms' := 6) (b := B) (As := [.int x, .int y]) (st := [.int 0, .ref O]) rfl cv_RL_61 rfl (by decide) (show 6 ≤ _ by have := hw.z; omega) (show _ < h.1 by have := hw.z; omega) hw.ph rfl (Nat.le_of_ble_eq_true rfl) (x_nibbles_s hw hx) (fun r h1 q => q.elim) (fun ce a h1 c1 q => ?_)
  obtain ⟨e8, e9⟩ := q; subst e8; subst e9
  refine mi_TX.take (E := "java/lang/IndexOutOfBoundsException") (nm := "java/lang/IndexOutOfBoundsException") c1 rfl ([]) _ _ rfl ps_0 rfl (by decide) cl_RL_25 ca_IndexOutOfBoundsException ?_
  change mi_WX _ pP X kL_nibbles 8 0 0 12 [(0, .ref B), (1, .int x), (2, .int y), (3, .ref O)] [.ref a] (mi_psh h (.inr (12, []))) _
  refine mi_blk okL_nibbles 1 (pc' := 14) (lv' := [(4, .ref a), (0, .ref B), (1, .int x), (2, .int y), (3, .ref O)]) (st' := []) rfl ?_
  refine mi_blk okL_nibbles 1 (pc' := 15) (lv' := [(4, .ref a), (0, .ref B), (1, .int x), (2, .int y), (3, .ref O)]) (st' := [.int 1]) rfl ?_
  exact mi_ret_i okL_nibbles rfl rfl rfl ⟨rfl, hp.thr (by decide)⟩
set_option maxHeartbeats 4000000 in
set_option maxRecDepth 100000 in
theorem e_place_s {X : mi_X} {h : mi_H} {B : Nat} (hw : ph_W B ph_0 (fun _ _ => 0) (fun _ _ => 0) h) {O : Nat} (hO : B + 518 ≤ O ∧ O < h.1) {g : Nat → Int64} (hOc : h.2 O = oL g) {x y : Int32} (hx : x < 0 ∨ (240 : Int32) ≤ x) : mi_SH pP X kL_place 8 [.ref B, .int x, .int y, .ref O] h 1 6 (fun r h1 => r = some (.int 1) ∧ hp B h O (oL g) 1 h1) := by
  refine ehL_place (Nat.le_of_ble_eq_true rfl) ?_
  refine mi_blk okL_place 5 (pc' := 5) (lv' := [(0, .ref B), (1, .int x), (2, .int y), (3, .ref O)]) (st' := [.int y, .int x, .ref B, .int 0, .ref O]) rfl ?_
  refine mi_callVX okL_place (mc := 0) (ms := 0) (mc' := 1) (ms' := 6) (b := B) (As := [.int x, .int y]) (st := [.int 0, .ref O]) rfl cv_RL_65 rfl (by decide) (show 6 ≤ _ by have := hw.z; omega) (show _ < h.1 by have := hw.z; omega) hw.ph rfl (Nat.le_of_ble_eq_true rfl) (x_place_s hw hx) (fun r h1 q => q.elim) (fun ce a h1 c1 q => ?_)
  obtain ⟨e8, e9⟩ := q; subst e8; subst e9
  refine mi_TX.take (E := "java/lang/IndexOutOfBoundsException") (nm := "java/lang/IndexOutOfBoundsException") c1 rfl ([]) _ _ rfl ps_0 rfl (by decide) cl_RL_25 ca_IndexOutOfBoundsException ?_
  change mi_WX _ pP X kL_place 8 0 0 13 [(0, .ref B), (1, .int x), (2, .int y), (3, .ref O)] [.ref a] (mi_psh h (.inr (12, []))) _
  refine mi_blk okL_place 1 (pc' := 15) (lv' := [(4, .ref a), (0, .ref B), (1, .int x), (2, .int y), (3, .ref O)]) (st' := []) rfl ?_
  refine mi_blk okL_place 1 (pc' := 16) (lv' := [(4, .ref a), (0, .ref B), (1, .int x), (2, .int y), (3, .ref O)]) (st' := [.int 1]) rfl ?_
  exact mi_ret_i okL_place rfl rfl rfl ⟨rfl, hp.thr (by decide)⟩
set_option maxHeartbeats 4000000 in
set_option maxRecDepth 100000 in
theorem e_wouldTake_s {X : mi_X} {h : mi_H} {B : Nat} (hw : ph_W B ph_0 (fun _ _ => 0) (fun _ _ => 0) h) {O : Nat} (hO : B + 518 ≤ O ∧ O < h.1) {g : Nat → UInt64} (hOc : h.2 O = oD g) {x y : Int32} (hx : x < 0 ∨ (240 : Int32) ≤ x) : mi_SH pP X kL_wouldTake 8 [.ref B, .int x, .int y, .ref O] h 1 6 (fun r h1 => r = some (.int 1) ∧ hp B h O (oD g) 1 h1) := by
  refine ehL_wouldTake (Nat.le_of_ble_eq_true rfl) ?_
  refine mi_blk okL_wouldTake 5 (pc' := 5) (lv' := [(0, .ref B), (1, .int x), (2, .int y), (3, .ref O)]) (st' := [.int y, .int x, .ref B, .int 0, .ref O]) rfl ?_
  refine mi_callVX okL_wouldTake (mc := 0) (ms := 0) (mc' := 1) (ms' := 6) (b := B) (As := [.int x, .int y]) (st := [.int 0, .ref O]) rfl cv_RL_80 rfl (by decide) (show 6 ≤ _ by have := hw.z; omega) (show _ < h.1 by have := hw.z; omega) hw.ph rfl (Nat.le_of_ble_eq_true rfl) (x_wouldTake_s hw hx) (fun r h1 q => q.elim) (fun ce a h1 c1 q => ?_)
  obtain ⟨e8, e9⟩ := q; subst e8; subst e9
  refine mi_TX.take (E := "java/lang/IndexOutOfBoundsException") (nm := "java/lang/IndexOutOfBoundsException") c1 rfl ([]) _ _ rfl ps_0 rfl (by decide) cl_RL_25 ca_IndexOutOfBoundsException ?_
  change mi_WX _ pP X kL_wouldTake 8 0 0 12 [(0, .ref B), (1, .int x), (2, .int y), (3, .ref O)] [.ref a] (mi_psh h (.inr (12, []))) _
  refine mi_blk okL_wouldTake 1 (pc' := 14) (lv' := [(4, .ref a), (0, .ref B), (1, .int x), (2, .int y), (3, .ref O)]) (st' := []) rfl ?_
  refine mi_blk okL_wouldTake 1 (pc' := 15) (lv' := [(4, .ref a), (0, .ref B), (1, .int x), (2, .int y), (3, .ref O)]) (st' := [.int 1]) rfl ?_
  exact mi_ret_i okL_wouldTake rfl rfl rfl ⟨rfl, hp.thr (by decide)⟩
set_option maxHeartbeats 4000000 in
set_option maxRecDepth 100000 in
theorem e_wouldMend_s {X : mi_X} {h : mi_H} {B : Nat} (hw : ph_W B ph_0 (fun _ _ => 0) (fun _ _ => 0) h) {O : Nat} (hO : B + 518 ≤ O ∧ O < h.1) {g : Nat → Int64} (hOc : h.2 O = oL g) {x y : Int32} (hx : x < 0 ∨ (240 : Int32) ≤ x) : mi_SH pP X kL_wouldMend 8 [.ref B, .int x, .int y, .ref O] h 1 6 (fun r h1 => r = some (.int 1) ∧ hp B h O (oL g) 1 h1) := by
  refine ehL_wouldMend (Nat.le_of_ble_eq_true rfl) ?_
  refine mi_blk okL_wouldMend 5 (pc' := 5) (lv' := [(0, .ref B), (1, .int x), (2, .int y), (3, .ref O)]) (st' := [.int y, .int x, .ref B, .int 0, .ref O]) rfl ?_
  refine mi_callVX okL_wouldMend (mc := 0) (ms := 0) (mc' := 1) (ms' := 6) (b := B) (As := [.int x, .int y]) (st := [.int 0, .ref O]) rfl cv_RL_84 rfl (by decide) (show 6 ≤ _ by have := hw.z; omega) (show _ < h.1 by have := hw.z; omega) hw.ph rfl (Nat.le_of_ble_eq_true rfl) (x_wouldMend_s hw hx) (fun r h1 q => q.elim) (fun ce a h1 c1 q => ?_)
  obtain ⟨e8, e9⟩ := q; subst e8; subst e9
  refine mi_TX.take (E := "java/lang/IndexOutOfBoundsException") (nm := "java/lang/IndexOutOfBoundsException") c1 rfl ([]) _ _ rfl ps_0 rfl (by decide) cl_RL_25 ca_IndexOutOfBoundsException ?_
  change mi_WX _ pP X kL_wouldMend 8 0 0 13 [(0, .ref B), (1, .int x), (2, .int y), (3, .ref O)] [.ref a] (mi_psh h (.inr (12, []))) _
  refine mi_blk okL_wouldMend 1 (pc' := 15) (lv' := [(4, .ref a), (0, .ref B), (1, .int x), (2, .int y), (3, .ref O)]) (st' := []) rfl ?_
  refine mi_blk okL_wouldMend 1 (pc' := 16) (lv' := [(4, .ref a), (0, .ref B), (1, .int x), (2, .int y), (3, .ref O)]) (st' := [.int 1]) rfl ?_
  exact mi_ret_i okL_wouldMend rfl rfl rfl ⟨rfl, hp.thr (by decide)⟩
set_option maxHeartbeats 4000000 in
set_option maxRecDepth 100000 in
theorem e_file_f {X : mi_X} {h : mi_H} {B : Nat} (hw : ph_W B ph_0 (fun _ _ => 0) (fun _ _ => 0) h) {O : Nat} (hO : B + 518 ≤ O ∧ O < h.1) {g : Nat → Int64} (hOc : h.2 O = oL g) {x y z : Int32} (hx : x < 0 ∨ (10 : Int32) ≤ x) : mi_SH pP X kL_file 8 [.ref B, .int x, .int y, .int z, .ref O] h 1 6 (fun r h1 => r = some (.int 1) ∧ hp B h O (oL g) 1 h1) := by
  refine ehL_file (Nat.le_of_ble_eq_true rfl) ?_
  refine mi_blk okL_file 6 (pc' := 7) (lv' := [(0, .ref B), (1, .int x), (2, .int y), (3, .int z), (4, .ref O)]) (st' := [.int z, .int y, .int x, .ref B, .int 0, .ref O]) rfl ?_
  refine mi_callVX okL_file (mc := 0) (ms := 0) (mc' := 1) (ms' := 6) (b := B) (As := [.int x, .int y, .int z]) (st := [.int 0, .ref O]) rfl cv_RL_37 rfl (by decide) (show 6 ≤ _ by have := hw.z; omega) (show _ < h.1 by have := hw.z; omega) hw.ph rfl (Nat.le_of_ble_eq_true rfl) (x_file_f hw hx) (fun r h1 q => q.elim) (fun ce a h1 c1 q => ?_)
  obtain ⟨e8, e9⟩ := q; subst e8; subst e9
  refine mi_TX.take (E := "java/lang/IndexOutOfBoundsException") (nm := "java/lang/IndexOutOfBoundsException") c1 rfl ([]) _ _ rfl ps_0 rfl (by decide) cl_RL_25 ca_IndexOutOfBoundsException ?_
  change mi_WX _ pP X kL_file 8 0 0 15 [(0, .ref B), (1, .int x), (2, .int y), (3, .int z), (4, .ref O)] [.ref a] (mi_psh h (.inr (12, []))) _
  refine mi_blk okL_file 1 (pc' := 17) (lv' := [(5, .ref a), (0, .ref B), (1, .int x), (2, .int y), (3, .int z), (4, .ref O)]) (st' := []) rfl ?_
  refine mi_blk okL_file 1 (pc' := 18) (lv' := [(5, .ref a), (0, .ref B), (1, .int x), (2, .int y), (3, .int z), (4, .ref O)]) (st' := [.int 1]) rfl ?_
  exact mi_ret_i okL_file rfl rfl rfl ⟨rfl, hp.thr (by decide)⟩
set_option maxHeartbeats 4000000 in
set_option maxRecDepth 100000 in
theorem e_ofFile_f {X : mi_X} {h : mi_H} {B : Nat} (hw : ph_W B ph_0 (fun _ _ => 0) (fun _ _ => 0) h) {O : Nat} (hO : B + 518 ≤ O ∧ O < h.1) {g : Nat → Int64} (hOc : h.2 O = oL g) {x y z : Int32} (hx : x < 0 ∨ (10 : Int32) ≤ x) : mi_SH pP X kL_ofFile 8 [.ref B, .int x, .int y, .int z, .ref O] h 1 6 (fun r h1 => r = some (.int 1) ∧ hp B h O (oL g) 1 h1) := by
  refine ehL_ofFile (Nat.le_of_ble_eq_true rfl) ?_
  refine mi_blk okL_ofFile 6 (pc' := 7) (lv' := [(0, .ref B), (1, .int x), (2, .int y), (3, .int z), (4, .ref O)]) (st' := [.int z, .int y, .int x, .ref B, .int 0, .ref O]) rfl ?_
  refine mi_callVX okL_ofFile (mc := 0) (ms := 0) (mc' := 1) (ms' := 6) (b := B) (As := [.int x, .int y, .int z]) (st := [.int 0, .ref O]) rfl cv_RL_71 rfl (by decide) (show 6 ≤ _ by have := hw.z; omega) (show _ < h.1 by have := hw.z; omega) hw.ph rfl (Nat.le_of_ble_eq_true rfl) (x_ofFile_f hw hx) (fun r h1 q => q.elim) (fun ce a h1 c1 q => ?_)
  obtain ⟨e8, e9⟩ := q; subst e8; subst e9
  refine mi_TX.take (E := "java/lang/IndexOutOfBoundsException") (nm := "java/lang/IndexOutOfBoundsException") c1 rfl ([]) _ _ rfl ps_0 rfl (by decide) cl_RL_25 ca_IndexOutOfBoundsException ?_
  change mi_WX _ pP X kL_ofFile 8 0 0 15 [(0, .ref B), (1, .int x), (2, .int y), (3, .int z), (4, .ref O)] [.ref a] (mi_psh h (.inr (12, []))) _
  refine mi_blk okL_ofFile 1 (pc' := 17) (lv' := [(5, .ref a), (0, .ref B), (1, .int x), (2, .int y), (3, .int z), (4, .ref O)]) (st' := []) rfl ?_
  refine mi_blk okL_ofFile 1 (pc' := 18) (lv' := [(5, .ref a), (0, .ref B), (1, .int x), (2, .int y), (3, .int z), (4, .ref O)]) (st' := [.int 1]) rfl ?_
  exact mi_ret_i okL_ofFile rfl rfl rfl ⟨rfl, hp.thr (by decide)⟩
set_option maxHeartbeats 4000000 in
set_option maxRecDepth 100000 in
theorem e_ofFile_s {X : mi_X} {h : mi_H} {B : Nat} (hw : ph_W B ph_0 (fun _ _ => 0) (fun _ _ => 0) h) {O : Nat} (hO : B + 518 ≤ O ∧ O < h.1) {g : Nat → Int64} (hOc : h.2 O = oL g) {i : Nat} (hi : i < 10) {y z : Int32} : mi_SH pP X kL_ofFile 8 [.ref B, .int (nI i), .int y, .int z, .ref O] h 1 6 (fun r h1 => r = some (.int 1) ∧ hp B h O (oL g) 1 h1) := by
  refine ehL_ofFile (Nat.le_of_ble_eq_true rfl) ?_
  refine mi_blk okL_ofFile 6 (pc' := 7) (lv' := [(0, .ref B), (1, .int (nI i)), (2, .int y), (3, .int z), (4, .ref O)]) (st' := [.int z, .int y, .int (nI i), .ref B, .int 0, .ref O]) rfl ?_
  refine mi_callVX okL_ofFile (mc := 0) (ms := 0) (mc' := 1) (ms' := 6) (b := B) (As := [.int (nI i), .int y, .int z]) (st := [.int 0, .ref O]) rfl cv_RL_71 rfl (by decide) (show 6 ≤ _ by have := hw.z; omega) (show _ < h.1 by have := hw.z; omega) hw.ph rfl (Nat.le_of_ble_eq_true rfl) (x_ofFile_s hw hi) (fun r h1 q => q.elim) (fun ce a h1 c1 q => ?_)
  obtain ⟨e8, e9⟩ := q; subst e8; subst e9
  refine mi_TX.take (E := "java/lang/IndexOutOfBoundsException") (nm := "java/lang/IndexOutOfBoundsException") c1 rfl ([]) _ _ rfl ps_0 rfl (by decide) cl_RL_25 ca_IndexOutOfBoundsException ?_
  change mi_WX _ pP X kL_ofFile 8 0 0 15 [(0, .ref B), (1, .int (nI i)), (2, .int y), (3, .int z), (4, .ref O)] [.ref a] (mi_psh h (.inr (12, []))) _
  refine mi_blk okL_ofFile 1 (pc' := 17) (lv' := [(5, .ref a), (0, .ref B), (1, .int (nI i)), (2, .int y), (3, .int z), (4, .ref O)]) (st' := []) rfl ?_
  refine mi_blk okL_ofFile 1 (pc' := 18) (lv' := [(5, .ref a), (0, .ref B), (1, .int (nI i)), (2, .int y), (3, .int z), (4, .ref O)]) (st' := [.int 1]) rfl ?_
  exact mi_ret_i okL_ofFile rfl rfl rfl ⟨rfl, hp.thr (by decide)⟩
set_option maxHeartbeats 4000000 in
set_option maxRecDepth 100000 in
theorem e_file_n {X : mi_X} {h : mi_H} {B : Nat} (hw : ph_W B ph_0 (fun _ _ => 0) (fun _ _ => 0) h) {O : Nat} (hO : B + 518 ≤ O ∧ O < h.1) {g : Nat → Int64} (hOc : h.2 O = oL g) {i : Nat} (hi : i < 10) {y z : Int32} (hy : y < 0 ∨ (240 : Int32) ≤ y) : mi_SH pP X kL_file 8 [.ref B, .int (nI i), .int y, .int z, .ref O] h 1 6 (fun r h1 => r = some (.int 2) ∧ hp B h O (oL g) 2 h1) := by
  refine ehL_file (Nat.le_of_ble_eq_true rfl) ?_
  refine mi_blk okL_file 6 (pc' := 7) (lv' := [(0, .ref B), (1, .int (nI i)), (2, .int y), (3, .int z), (4, .ref O)]) (st' := [.int z, .int y, .int (nI i), .ref B, .int 0, .ref O]) rfl ?_
  refine mi_callVX okL_file (mc := 0) (ms := 0) (mc' := 1) (ms' := 6) (b := B) (As := [.int (nI i), .int y, .int z]) (st := [.int 0, .ref O]) rfl cv_RL_37 rfl (by decide) (show 6 ≤ _ by have := hw.z; omega) (show _ < h.1 by have := hw.z; omega) hw.ph rfl (Nat.le_of_ble_eq_true rfl) (x_file_n hw hi hy) (fun r h1 q => q.elim) (fun ce a h1 c1 q => ?_)
  obtain ⟨e8, e9⟩ := q; subst e8; subst e9
  refine mi_TX.take (E := "java/lang/IllegalArgumentException") (nm := "java/lang/IllegalArgumentException") c1 rfl (tableOf [(0, 12, 15, 25)]) _ _ rfl (ps_c (by decide) cl_RL_25 (fun _ _ _ h => h.2.2.1) ps_0) rfl (by decide) cl_RL_19 ca_IllegalArgumentException ?_
  change mi_WX _ pP X kL_file 8 0 0 19 [(0, .ref B), (1, .int (nI i)), (2, .int y), (3, .int z), (4, .ref O)] [.ref a] (mi_psh h (.inr (11, []))) _
  refine mi_blk okL_file 1 (pc' := 21) (lv' := [(5, .ref a), (0, .ref B), (1, .int (nI i)), (2, .int y), (3, .int z), (4, .ref O)]) (st' := []) rfl ?_
  refine mi_blk okL_file 1 (pc' := 22) (lv' := [(5, .ref a), (0, .ref B), (1, .int (nI i)), (2, .int y), (3, .int z), (4, .ref O)]) (st' := [.int 2]) rfl ?_
  exact mi_ret_i okL_file rfl rfl rfl ⟨rfl, hp.thr (by decide)⟩
set_option maxHeartbeats 4000000 in
set_option maxRecDepth 100000 in
theorem e_file_t {X : mi_X} {h : mi_H} {B : Nat} (hw : ph_W B ph_0 (fun _ _ => 0) (fun _ _ => 0) h) {O : Nat} (hO : B + 518 ≤ O ∧ O < h.1) {g : Nat → Int64} (hOc : h.2 O = oL g) {i : Nat} (hi : i < 10) {k : Nat} (hk : k < 240) {z : Int32} : mi_SH pP X kL_file 8 [.ref B, .int (nI i), .int (nI k), .int z, .ref O] h 1 6 (fun r h1 => r = some (.int 2) ∧ hp B h O (oL g) 2 h1) := by
  refine ehL_file (Nat.le_of_ble_eq_true rfl) ?_
  refine mi_blk okL_file 6 (pc' := 7) (lv' := [(0, .ref B), (1, .int (nI i)), (2, .int (nI k)), (3, .int z), (4, .ref O)]) (st' := [.int z, .int (nI k), .int (nI i), .ref B, .int 0, .ref O]) rfl ?_
  refine mi_callVX okL_file (mc := 0) (ms := 0) (mc' := 1) (ms' := 6) (b := B) (As := [.int (nI i), .int (nI k), .int z]) (st := [.int 0, .ref O]) rfl cv_RL_37 rfl (by decide) (show 6 ≤ _ by have := hw.z; omega) (show _ < h.1 by have := hw.z; omega) hw.ph rfl (Nat.le_of_ble_eq_true rfl) (x_file_t hw hi hk) (fun r h1 q => q.elim) (fun ce a h1 c1 q => ?_)
  obtain ⟨e8, e9⟩ := q; subst e8; subst e9
  refine mi_TX.take (E := "java/lang/IllegalArgumentException") (nm := "java/lang/IllegalArgumentException") c1 rfl (tableOf [(0, 12, 15, 25)]) _ _ rfl (ps_c (by decide) cl_RL_25 (fun _ _ _ h => h.2.2.1) ps_0) rfl (by decide) cl_RL_19 ca_IllegalArgumentException ?_
  change mi_WX _ pP X kL_file 8 0 0 19 [(0, .ref B), (1, .int (nI i)), (2, .int (nI k)), (3, .int z), (4, .ref O)] [.ref a] (mi_psh h (.inr (11, []))) _
  refine mi_blk okL_file 1 (pc' := 21) (lv' := [(5, .ref a), (0, .ref B), (1, .int (nI i)), (2, .int (nI k)), (3, .int z), (4, .ref O)]) (st' := []) rfl ?_
  refine mi_blk okL_file 1 (pc' := 22) (lv' := [(5, .ref a), (0, .ref B), (1, .int (nI i)), (2, .int (nI k)), (3, .int z), (4, .ref O)]) (st' := [.int 2]) rfl ?_
  exact mi_ret_i okL_file rfl rfl rfl ⟨rfl, hp.thr (by decide)⟩
set_option maxHeartbeats 4000000 in
set_option maxRecDepth 100000 in
theorem e_scratch_t {X : mi_X} {h : mi_H} {B : Nat} (hw : ph_W B ph_0 (fun _ _ => 0) (fun _ _ => 0) h) {O : Nat} (hO : B + 518 ≤ O ∧ O < h.1) {g : Nat → Int64} (hOc : h.2 O = oL g) {x y z u : Int32} (hx : ((x < 0 ∨ (30 : Int32) ≤ x) ∨ y < x) ∨ (30 : Int32) ≤ y) : mi_SH pP X kL_scratch 8 [.ref B, .int x, .int y, .int z, .int u, .ref O] h 1 6 (fun r h1 => r = some (.int 1) ∧ hp B h O (oL g) 1 h1) := by
  refine ehL_scratch (Nat.le_of_ble_eq_true rfl) ?_
  refine mi_blk okL_scratch 7 (pc' := 9) (lv' := [(0, .ref B), (1, .int x), (2, .int y), (3, .int z), (4, .int u), (5, .ref O)]) (st' := [.int u, .int z, .int y, .int x, .ref B, .int 0, .ref O]) rfl ?_
  refine mi_callVX okL_scratch (mc := 0) (ms := 0) (mc' := 1) (ms' := 6) (b := B) (As := [.int x, .int y, .int z, .int u]) (st := [.int 0, .ref O]) rfl cv_RL_41 rfl (by decide) (show 6 ≤ _ by have := hw.z; omega) (show _ < h.1 by have := hw.z; omega) hw.ph rfl (Nat.le_of_ble_eq_true rfl) (x_scratch_t hw hx) (fun r h1 q => q.elim) (fun ce a h1 c1 q => ?_)
  obtain ⟨e8, e9⟩ := q; subst e8; subst e9
  refine mi_TX.take (E := "java/lang/IllegalArgumentException") (nm := "java/lang/IllegalArgumentException") c1 rfl ([]) _ _ rfl ps_0 rfl (by decide) cl_RL_19 ca_IllegalArgumentException ?_
  change mi_WX _ pP X kL_scratch 8 0 0 17 [(0, .ref B), (1, .int x), (2, .int y), (3, .int z), (4, .int u), (5, .ref O)] [.ref a] (mi_psh h (.inr (11, []))) _
  refine mi_blk okL_scratch 1 (pc' := 19) (lv' := [(6, .ref a), (0, .ref B), (1, .int x), (2, .int y), (3, .int z), (4, .int u), (5, .ref O)]) (st' := []) rfl ?_
  refine mi_blk okL_scratch 1 (pc' := 20) (lv' := [(6, .ref a), (0, .ref B), (1, .int x), (2, .int y), (3, .int z), (4, .int u), (5, .ref O)]) (st' := [.int 1]) rfl ?_
  exact mi_ret_i okL_scratch rfl rfl rfl ⟨rfl, hp.thr (by decide)⟩
set_option maxHeartbeats 4000000 in
set_option maxRecDepth 100000 in
theorem e_scratch_a {X : mi_X} {h : mi_H} {B : Nat} (hw : ph_W B ph_0 (fun _ _ => 0) (fun _ _ => 0) h) {O : Nat} (hO : B + 518 ≤ O ∧ O < h.1) {g : Nat → Int64} (hOc : h.2 O = oL g) {x y z u : Int32} (h1 : ¬ x < 0) (h2 : ¬ (30 : Int32) ≤ x) (h3 : ¬ y < x) (h4 : y < 30) (hx : ((z < 0 ∨ (359 : Int32) < z) ∨ u < z) ∨ (359 : Int32) < u) : mi_SH pP X kL_scratch 8 [.ref B, .int x, .int y, .int z, .int u, .ref O] h 1 6 (fun r h1 => r = some (.int 1) ∧ hp B h O (oL g) 1 h1) := by
  refine ehL_scratch (Nat.le_of_ble_eq_true rfl) ?_
  refine mi_blk okL_scratch 7 (pc' := 9) (lv' := [(0, .ref B), (1, .int x), (2, .int y), (3, .int z), (4, .int u), (5, .ref O)]) (st' := [.int u, .int z, .int y, .int x, .ref B, .int 0, .ref O]) rfl ?_
  refine mi_callVX okL_scratch (mc := 0) (ms := 0) (mc' := 1) (ms' := 6) (b := B) (As := [.int x, .int y, .int z, .int u]) (st := [.int 0, .ref O]) rfl cv_RL_41 rfl (by decide) (show 6 ≤ _ by have := hw.z; omega) (show _ < h.1 by have := hw.z; omega) hw.ph rfl (Nat.le_of_ble_eq_true rfl) (x_scratch_a hw h1 h2 h3 h4 hx) (fun r h1 q => q.elim) (fun ce a h1 c1 q => ?_)
  obtain ⟨e8, e9⟩ := q; subst e8; subst e9
  refine mi_TX.take (E := "java/lang/IllegalArgumentException") (nm := "java/lang/IllegalArgumentException") c1 rfl ([]) _ _ rfl ps_0 rfl (by decide) cl_RL_19 ca_IllegalArgumentException ?_
  change mi_WX _ pP X kL_scratch 8 0 0 17 [(0, .ref B), (1, .int x), (2, .int y), (3, .int z), (4, .int u), (5, .ref O)] [.ref a] (mi_psh h (.inr (11, []))) _
  refine mi_blk okL_scratch 1 (pc' := 19) (lv' := [(6, .ref a), (0, .ref B), (1, .int x), (2, .int y), (3, .int z), (4, .int u), (5, .ref O)]) (st' := []) rfl ?_
  refine mi_blk okL_scratch 1 (pc' := 20) (lv' := [(6, .ref a), (0, .ref B), (1, .int x), (2, .int y), (3, .int z), (4, .int u), (5, .ref O)]) (st' := [.int 1]) rfl ?_
  exact mi_ret_i okL_scratch rfl rfl rfl ⟨rfl, hp.thr (by decide)⟩
set_option maxHeartbeats 4000000 in
set_option maxRecDepth 100000 in
theorem e_scratch {X : mi_X} {h : mi_H} {B : Nat} (hw : ph_W B ph_0 (fun _ _ => 0) (fun _ _ => 0) h) {O : Nat} (hO : B + 518 ≤ O ∧ O < h.1) {g : Nat → Int64} (hOc : h.2 O = oL g) (hX : mi_X23 X) {x y z u : Int32} (g1 : ¬ x < 0) (g2 : ¬ (30 : Int32) ≤ x) (g3 : ¬ y < x) (g4 : y < 30) (g5 : ¬ z < 0) (g6 : ¬ (359 : Int32) < z) (g7 : ¬ u < z) (g8 : u ≤ (359 : Int32)) : mi_SH pP X kL_scratch 8 [.ref B, .int x, .int y, .int z, .int u, .ref O] h 1 6 (fun r h1 => r = some (.int 0) ∧ hp B h O (oL (va_up g 0 ((0 : Int32).toInt64))) 0 h1) := by
  refine ehL_scratch (Nat.le_of_ble_eq_true rfl) ?_
  refine mi_blk okL_scratch 7 (pc' := 9) (lv' := [(0, .ref B), (1, .int x), (2, .int y), (3, .int z), (4, .int u), (5, .ref O)]) (st' := [.int u, .int z, .int y, .int x, .ref B, .int 0, .ref O]) rfl ?_
  refine mi_callV okL_scratch (mc := 1) (ms := 6) (mc' := 0) (ms' := 0) (b := B) (As := [.int x, .int y, .int z, .int u]) (st := [.int 0, .ref O]) rfl cv_RL_41 rfl (by decide) (show 6 ≤ _ by have := hw.z; omega) (show _ < h.1 by have := hw.z; omega) hw.ph rfl (Nat.le_of_ble_eq_true rfl) (f_scratch hw hX g1 g2 g3 g4 g5 g6 g7 g8) (fun r h1 q => ?_)
  obtain ⟨rfl, e9⟩ := q; have f : fr B h h1 := (by subst e9; exact ⟨rfl, fun _ _ => rfl⟩)
  change mi_WX _ pP X kL_scratch 8 1 6 12 [(0, .ref B), (1, .int x), (2, .int y), (3, .int z), (4, .int u), (5, .ref O)] [.int 0, .int 0, .ref O] h1 _
  refine mi_blk okL_scratch 1 (pc' := 13) (lv' := [(0, .ref B), (1, .int x), (2, .int y), (3, .int z), (4, .int u), (5, .ref O)]) (st' := [.long ((0 : Int32).toInt64), .int 0, .ref O]) rfl ?_
  refine mo_lst okL_scratch rfl (show 6 ≤ O by have := hw.z; omega) (by rw [f.1]; exact hO.2) ((f.2 O (Or.inr hO.1)).trans hOc) ?_
  refine mi_blk okL_scratch 1 (pc' := 21) (lv' := [(0, .ref B), (1, .int x), (2, .int y), (3, .int z), (4, .int u), (5, .ref O)]) (st' := []) rfl ?_
  refine mi_blk okL_scratch 1 (pc' := 22) (lv' := [(0, .ref B), (1, .int x), (2, .int y), (3, .int z), (4, .int u), (5, .ref O)]) (st' := [.int 0]) rfl ?_
  exact mi_ret_i okL_scratch rfl rfl rfl ⟨rfl, hp.ret f⟩
set_option maxHeartbeats 4000000 in
set_option maxRecDepth 100000 in
theorem e_rot_r {X : mi_X} {h : mi_H} {B : Nat} (hw : ph_W B ph_0 (fun _ _ => 0) (fun _ _ => 0) h) {O : Nat} (hO : B + 518 ≤ O ∧ O < h.1) {g : Nat → Int64} (hOc : h.2 O = oL g) {x : Int32} (hx : x < 0 ∨ (999 : Int32) < x) : mi_SH pP X kL_rot 8 [.ref B, .int x, .ref O] h 1 6 (fun r h1 => r = some (.int 1) ∧ hp B h O (oL g) 1 h1) := by
  refine ehL_rot (Nat.le_of_ble_eq_true rfl) ?_
  refine mi_blk okL_rot 4 (pc' := 4) (lv' := [(0, .ref B), (1, .int x), (2, .ref O)]) (st' := [.int x, .ref B, .int 0, .ref O]) rfl ?_
  refine mi_callVX okL_rot (mc := 0) (ms := 0) (mc' := 1) (ms' := 6) (b := B) (As := [.int x]) (st := [.int 0, .ref O]) rfl cv_RL_45 rfl (by decide) (show 6 ≤ _ by have := hw.z; omega) (show _ < h.1 by have := hw.z; omega) hw.ph rfl (Nat.le_of_ble_eq_true rfl) (x_rot hw hx) (fun r h1 q => q.elim) (fun ce a h1 c1 q => ?_)
  obtain ⟨e8, e9⟩ := q; subst e8; subst e9
  refine mi_TX.take (E := "java/lang/IllegalArgumentException") (nm := "java/lang/IllegalArgumentException") c1 rfl ([]) _ _ rfl ps_0 rfl (by decide) cl_RL_19 ca_IllegalArgumentException ?_
  change mi_WX _ pP X kL_rot 8 0 0 12 [(0, .ref B), (1, .int x), (2, .ref O)] [.ref a] (mi_psh h (.inr (11, []))) _
  refine mi_blk okL_rot 1 (pc' := 13) (lv' := [(3, .ref a), (0, .ref B), (1, .int x), (2, .ref O)]) (st' := []) rfl ?_
  refine mi_blk okL_rot 1 (pc' := 14) (lv' := [(3, .ref a), (0, .ref B), (1, .int x), (2, .ref O)]) (st' := [.int 1]) rfl ?_
  exact mi_ret_i okL_rot rfl rfl rfl ⟨rfl, hp.thr (by decide)⟩
set_option maxHeartbeats 4000000 in
set_option maxRecDepth 100000 in
theorem e_rot {X : mi_X} {h : mi_H} {B : Nat} (hw : ph_W B ph_0 (fun _ _ => 0) (fun _ _ => 0) h) {O : Nat} (hO : B + 518 ≤ O ∧ O < h.1) {g : Nat → Int64} (hOc : h.2 O = oL g) {x : Int32} (g1 : ¬ x < 0) (g2 : x ≤ (999 : Int32)) : mi_SH pP X kL_rot 8 [.ref B, .int x, .ref O] h 1 6 (fun r h1 => r = some (.int 0) ∧ hp B h O (oL (va_up g 0 ((0 : Int32).toInt64))) 0 h1) := by
  refine ehL_rot (Nat.le_of_ble_eq_true rfl) ?_
  refine mi_blk okL_rot 4 (pc' := 4) (lv' := [(0, .ref B), (1, .int x), (2, .ref O)]) (st' := [.int x, .ref B, .int 0, .ref O]) rfl ?_
  refine mi_callV okL_rot (mc := 1) (ms := 6) (mc' := 0) (ms' := 0) (b := B) (As := [.int x]) (st := [.int 0, .ref O]) rfl cv_RL_45 rfl (by decide) (show 6 ≤ _ by have := hw.z; omega) (show _ < h.1 by have := hw.z; omega) hw.ph rfl (Nat.le_of_ble_eq_true rfl) (f_rot hw g1 g2) (fun r h1 q => ?_)
  obtain ⟨rfl, e9⟩ := q; have f : fr B h h1 := (by subst e9; exact ⟨rfl, fun _ _ => rfl⟩)
  change mi_WX _ pP X kL_rot 8 1 6 7 [(0, .ref B), (1, .int x), (2, .ref O)] [.int 0, .int 0, .ref O] h1 _
  refine mi_blk okL_rot 1 (pc' := 8) (lv' := [(0, .ref B), (1, .int x), (2, .ref O)]) (st' := [.long ((0 : Int32).toInt64), .int 0, .ref O]) rfl ?_
  refine mo_lst okL_rot rfl (show 6 ≤ O by have := hw.z; omega) (by rw [f.1]; exact hO.2) ((f.2 O (Or.inr hO.1)).trans hOc) ?_
  refine mi_blk okL_rot 1 (pc' := 15) (lv' := [(0, .ref B), (1, .int x), (2, .ref O)]) (st' := []) rfl ?_
  refine mi_blk okL_rot 1 (pc' := 16) (lv' := [(0, .ref B), (1, .int x), (2, .ref O)]) (st' := [.int 0]) rfl ?_
  exact mi_ret_i okL_rot rfl rfl rfl ⟨rfl, hp.ret f⟩
set_option maxHeartbeats 4000000 in
set_option maxRecDepth 100000 in
theorem e_read {X : mi_X} {h : mi_H} {B : Nat} (hw : ph_W B ph_0 (fun _ _ => 0) (fun _ _ => 0) h) {O : Nat} (hO : B + 518 ≤ O ∧ O < h.1) {g : Nat → Int64} (hOc : h.2 O = oL g) (hX : mi_X23 X) {k : Nat} (hk : k < 240) (hx : dr_okc FP.dconst0 0 k) : mi_SH pP X kL_read 8 [.ref B, .int (nI k), .ref O] h 1 6 (fun r h1 => r = some (.int 0) ∧ hp B h O (oL (va_up g 0 ((2 : Int32).toInt64))) 0 h1) := by
  refine ehL_read (Nat.le_of_ble_eq_true rfl) ?_
  refine mi_blk okL_read 4 (pc' := 4) (lv' := [(0, .ref B), (1, .int (nI k)), (2, .ref O)]) (st' := [.int (nI k), .ref B, .int 0, .ref O]) rfl ?_
  refine mi_callV okL_read (mc := 1) (ms := 6) (mc' := 0) (ms' := 0) (b := B) (As := [.int (nI k)]) (st := [.int 0, .ref O]) rfl cv_RL_48 rfl (by decide) (show 6 ≤ _ by have := hw.z; omega) (show _ < h.1 by have := hw.z; omega) hw.ph rfl (Nat.le_of_ble_eq_true rfl) (c_read hX hw hk (by decide) rfl hx) (fun r h1 q => ?_)
  obtain ⟨rfl, e9⟩ := q; have f : fr B h h1 := (by subst e9; exact ⟨rfl, fun b hb => mi_set_ne (by have := hw.z; omega)⟩)
  change mi_WX _ pP X kL_read 8 1 6 7 [(0, .ref B), (1, .int (nI k)), (2, .ref O)] [.int 2, .int 0, .ref O] h1 _
  refine mi_blk okL_read 1 (pc' := 8) (lv' := [(0, .ref B), (1, .int (nI k)), (2, .ref O)]) (st' := [.long ((2 : Int32).toInt64), .int 0, .ref O]) rfl ?_
  refine mo_lst okL_read rfl (show 6 ≤ O by have := hw.z; omega) (by rw [f.1]; exact hO.2) ((f.2 O (Or.inr hO.1)).trans hOc) ?_
  refine mi_blk okL_read 1 (pc' := 18) (lv' := [(0, .ref B), (1, .int (nI k)), (2, .ref O)]) (st' := []) rfl ?_
  refine mi_blk okL_read 1 (pc' := 19) (lv' := [(0, .ref B), (1, .int (nI k)), (2, .ref O)]) (st' := [.int 0]) rfl ?_
  exact mi_ret_i okL_read rfl rfl rfl ⟨rfl, hp.ret f⟩
set_option maxHeartbeats 4000000 in
set_option maxRecDepth 100000 in
theorem e_seek {X : mi_X} {h : mi_H} {B : Nat} (hw : ph_W B ph_0 (fun _ _ => 0) (fun _ _ => 0) h) {O : Nat} (hO : B + 518 ≤ O ∧ O < h.1) {g : Nat → UInt64} (hOc : h.2 O = oD g) (hX : mi_X23 X) {k : Nat} (hk : k < 240) : mi_SH pP X kL_seek 8 [.ref B, .int (nI k), .ref O] h 1 6 (fun r h1 => r = some (.int 0) ∧ hp B h O (oD (va_up g 0 (dr_sk 0 k))) 0 h1) := by
  refine ehL_seek (Nat.le_of_ble_eq_true rfl) ?_
  refine mi_blk okL_seek 4 (pc' := 4) (lv' := [(0, .ref B), (1, .int (nI k)), (2, .ref O)]) (st' := [.int (nI k), .ref B, .int 0, .ref O]) rfl ?_
  refine mi_callV okL_seek (mc := 1) (ms := 6) (mc' := 0) (ms' := 0) (b := B) (As := [.int (nI k)]) (st := [.int 0, .ref O]) rfl cv_RL_51 rfl (by decide) (show 6 ≤ _ by have := hw.z; omega) (show _ < h.1 by have := hw.z; omega) hw.ph rfl (Nat.le_of_ble_eq_true rfl) (f_seek hw hX hk) (fun r h1 q => ?_)
  obtain ⟨rfl, e9⟩ := q; have f : fr B h h1 := (by subst e9; exact ⟨rfl, fun _ _ => rfl⟩)
  change mi_WX _ pP X kL_seek 8 1 6 7 [(0, .ref B), (1, .int (nI k)), (2, .ref O)] [.double (dr_sk 0 k), .int 0, .ref O] h1 _
  refine mo_dst okL_seek rfl (show 6 ≤ O by have := hw.z; omega) (by rw [f.1]; exact hO.2) ((f.2 O (Or.inr hO.1)).trans hOc) ?_
  refine mi_blk okL_seek 1 (pc' := 14) (lv' := [(0, .ref B), (1, .int (nI k)), (2, .ref O)]) (st' := []) rfl ?_
  refine mi_blk okL_seek 1 (pc' := 15) (lv' := [(0, .ref B), (1, .int (nI k)), (2, .ref O)]) (st' := [.int 0]) rfl ?_
  exact mi_ret_i okL_seek rfl rfl rfl ⟨rfl, hp.ret f⟩
set_option maxHeartbeats 4000000 in
set_option maxRecDepth 100000 in
theorem e_angle {X : mi_X} {h : mi_H} {B : Nat} (hw : ph_W B ph_0 (fun _ _ => 0) (fun _ _ => 0) h) {O : Nat} (hO : B + 518 ≤ O ∧ O < h.1) {g : Nat → UInt64} (hOc : h.2 O = oD g) (hX : mi_X23 X) {k : Nat} (hk : k < 240) : mi_SH pP X kL_angle 8 [.ref B, .int (nI k), .ref O] h 1 6 (fun r h1 => r = some (.int 0) ∧ hp B h O (oD (va_up g 0 (sp_ang (nI k)))) 0 h1) := by
  refine ehL_angle (Nat.le_of_ble_eq_true rfl) ?_
  refine mi_blk okL_angle 4 (pc' := 4) (lv' := [(0, .ref B), (1, .int (nI k)), (2, .ref O)]) (st' := [.int (nI k), .ref B, .int 0, .ref O]) rfl ?_
  refine mi_callV okL_angle (mc := 1) (ms := 6) (mc' := 0) (ms' := 0) (b := B) (As := [.int (nI k)]) (st := [.int 0, .ref O]) rfl cv_RL_55 rfl (by decide) (show 6 ≤ _ by have := hw.z; omega) (show _ < h.1 by have := hw.z; omega) hw.ph rfl (Nat.le_of_ble_eq_true rfl) (f_angle hw hX hk) (fun r h1 q => ?_)
  obtain ⟨rfl, e9⟩ := q; have f : fr B h h1 := (by subst e9; exact ⟨rfl, fun _ _ => rfl⟩)
  change mi_WX _ pP X kL_angle 8 1 6 7 [(0, .ref B), (1, .int (nI k)), (2, .ref O)] [.double (sp_ang (nI k)), .int 0, .ref O] h1 _
  refine mo_dst okL_angle rfl (show 6 ≤ O by have := hw.z; omega) (by rw [f.1]; exact hO.2) ((f.2 O (Or.inr hO.1)).trans hOc) ?_
  refine mi_blk okL_angle 1 (pc' := 14) (lv' := [(0, .ref B), (1, .int (nI k)), (2, .ref O)]) (st' := []) rfl ?_
  refine mi_blk okL_angle 1 (pc' := 15) (lv' := [(0, .ref B), (1, .int (nI k)), (2, .ref O)]) (st' := [.int 0]) rfl ?_
  exact mi_ret_i okL_angle rfl rfl rfl ⟨rfl, hp.ret f⟩
set_option maxHeartbeats 4000000 in
set_option maxRecDepth 100000 in
theorem e_ofSector_0 {X : mi_X} {h : mi_H} {B : Nat} (hw : ph_W B ph_0 (fun _ _ => 0) (fun _ _ => 0) h) {O : Nat} (hO : B + 518 ≤ O ∧ O < h.1) {g : Nat → Int64} (hOc : h.2 O = oL g) (hX : mi_X23 X) {k : Nat} (hk : k < 240) : mi_SH pP X kL_ofSector 8 [.ref B, .int (nI k), .int 0, .ref O] h 1 6 (fun r h1 => r = some (.int 0) ∧ hp B h O (oL (va_up g 0 (((-1) : Int32).toInt64))) 0 h1) := by
  refine ehL_ofSector (Nat.le_of_ble_eq_true rfl) ?_
  refine mi_blk okL_ofSector 5 (pc' := 5) (lv' := [(0, .ref B), (1, .int (nI k)), (2, .int 0), (3, .ref O)]) (st' := [.int 0, .int (nI k), .ref B, .int 0, .ref O]) rfl ?_
  refine mi_callV okL_ofSector (mc := 1) (ms := 6) (mc' := 0) (ms' := 0) (b := B) (As := [.int (nI k), .int 0]) (st := [.int 0, .ref O]) rfl cv_RL_58 rfl (by decide) (show 6 ≤ _ by have := hw.z; omega) (show _ < h.1 by have := hw.z; omega) hw.ph rfl (Nat.le_of_ble_eq_true rfl) (f_ofSector_0 hw hX hk) (fun r h1 q => ?_)
  obtain ⟨rfl, e9⟩ := q; have f : fr B h h1 := (by subst e9; exact ⟨rfl, fun _ _ => rfl⟩)
  change mi_WX _ pP X kL_ofSector 8 1 6 8 [(0, .ref B), (1, .int (nI k)), (2, .int 0), (3, .ref O)] [.int (-1), .int 0, .ref O] h1 _
  refine mi_blk okL_ofSector 1 (pc' := 9) (lv' := [(0, .ref B), (1, .int (nI k)), (2, .int 0), (3, .ref O)]) (st' := [.long (((-1) : Int32).toInt64), .int 0, .ref O]) rfl ?_
  refine mo_lst okL_ofSector rfl (show 6 ≤ O by have := hw.z; omega) (by rw [f.1]; exact hO.2) ((f.2 O (Or.inr hO.1)).trans hOc) ?_
  refine mi_blk okL_ofSector 1 (pc' := 21) (lv' := [(0, .ref B), (1, .int (nI k)), (2, .int 0), (3, .ref O)]) (st' := []) rfl ?_
  refine mi_blk okL_ofSector 1 (pc' := 22) (lv' := [(0, .ref B), (1, .int (nI k)), (2, .int 0), (3, .ref O)]) (st' := [.int 0]) rfl ?_
  exact mi_ret_i okL_ofSector rfl rfl rfl ⟨rfl, hp.ret f⟩
set_option maxHeartbeats 4000000 in
set_option maxRecDepth 100000 in
theorem e_ofSector_1 {X : mi_X} {h : mi_H} {B : Nat} (hw : ph_W B ph_0 (fun _ _ => 0) (fun _ _ => 0) h) {O : Nat} (hO : B + 518 ≤ O ∧ O < h.1) {g : Nat → Int64} (hOc : h.2 O = oL g) (hX : mi_X23 X) {k : Nat} (hk : k < 240) : mi_SH pP X kL_ofSector 8 [.ref B, .int (nI k), .int 1, .ref O] h 1 6 (fun r h1 => r = some (.int 0) ∧ hp B h O (oL (va_up g 0 ((0 : Int32).toInt64))) 0 h1) := by
  refine ehL_ofSector (Nat.le_of_ble_eq_true rfl) ?_
  refine mi_blk okL_ofSector 5 (pc' := 5) (lv' := [(0, .ref B), (1, .int (nI k)), (2, .int 1), (3, .ref O)]) (st' := [.int 1, .int (nI k), .ref B, .int 0, .ref O]) rfl ?_
  refine mi_callV okL_ofSector (mc := 1) (ms := 6) (mc' := 0) (ms' := 0) (b := B) (As := [.int (nI k), .int 1]) (st := [.int 0, .ref O]) rfl cv_RL_58 rfl (by decide) (show 6 ≤ _ by have := hw.z; omega) (show _ < h.1 by have := hw.z; omega) hw.ph rfl (Nat.le_of_ble_eq_true rfl) (f_ofSector_1 hw hX hk) (fun r h1 q => ?_)
  obtain ⟨rfl, e9⟩ := q; have f : fr B h h1 := (by subst e9; exact ⟨rfl, fun _ _ => rfl⟩)
  change mi_WX _ pP X kL_ofSector 8 1 6 8 [(0, .ref B), (1, .int (nI k)), (2, .int 1), (3, .ref O)] [.int 0, .int 0, .ref O] h1 _
  refine mi_blk okL_ofSector 1 (pc' := 9) (lv' := [(0, .ref B), (1, .int (nI k)), (2, .int 1), (3, .ref O)]) (st' := [.long ((0 : Int32).toInt64), .int 0, .ref O]) rfl ?_
  refine mo_lst okL_ofSector rfl (show 6 ≤ O by have := hw.z; omega) (by rw [f.1]; exact hO.2) ((f.2 O (Or.inr hO.1)).trans hOc) ?_
  refine mi_blk okL_ofSector 1 (pc' := 21) (lv' := [(0, .ref B), (1, .int (nI k)), (2, .int 1), (3, .ref O)]) (st' := []) rfl ?_
  refine mi_blk okL_ofSector 1 (pc' := 22) (lv' := [(0, .ref B), (1, .int (nI k)), (2, .int 1), (3, .ref O)]) (st' := [.int 0]) rfl ?_
  exact mi_ret_i okL_ofSector rfl rfl rfl ⟨rfl, hp.ret f⟩
set_option maxHeartbeats 4000000 in
set_option maxRecDepth 100000 in
theorem e_ofSector_2 {X : mi_X} {h : mi_H} {B : Nat} (hw : ph_W B ph_0 (fun _ _ => 0) (fun _ _ => 0) h) {O : Nat} (hO : B + 518 ≤ O ∧ O < h.1) {g : Nat → Int64} (hOc : h.2 O = oL g) (hX : mi_X23 X) {k : Nat} (hk : k < 240) : mi_SH pP X kL_ofSector 8 [.ref B, .int (nI k), .int 2, .ref O] h 1 6 (fun r h1 => r = some (.int 0) ∧ hp B h O (oL (va_up g 0 ((ib_bc 0).toInt64))) 0 h1) := by
  refine ehL_ofSector (Nat.le_of_ble_eq_true rfl) ?_
  refine mi_blk okL_ofSector 5 (pc' := 5) (lv' := [(0, .ref B), (1, .int (nI k)), (2, .int 2), (3, .ref O)]) (st' := [.int 2, .int (nI k), .ref B, .int 0, .ref O]) rfl ?_
  refine mi_callV okL_ofSector (mc := 1) (ms := 6) (mc' := 0) (ms' := 0) (b := B) (As := [.int (nI k), .int 2]) (st := [.int 0, .ref O]) rfl cv_RL_58 rfl (by decide) (show 6 ≤ _ by have := hw.z; omega) (show _ < h.1 by have := hw.z; omega) hw.ph rfl (Nat.le_of_ble_eq_true rfl) (f_ofSector_2 hw hX hk) (fun r h1 q => ?_)
  obtain ⟨rfl, e9⟩ := q; have f : fr B h h1 := (by subst e9; exact ⟨rfl, fun _ _ => rfl⟩)
  change mi_WX _ pP X kL_ofSector 8 1 6 8 [(0, .ref B), (1, .int (nI k)), (2, .int 2), (3, .ref O)] [.int (ib_bc 0), .int 0, .ref O] h1 _
  refine mi_blk okL_ofSector 1 (pc' := 9) (lv' := [(0, .ref B), (1, .int (nI k)), (2, .int 2), (3, .ref O)]) (st' := [.long ((ib_bc 0).toInt64), .int 0, .ref O]) rfl ?_
  refine mo_lst okL_ofSector rfl (show 6 ≤ O by have := hw.z; omega) (by rw [f.1]; exact hO.2) ((f.2 O (Or.inr hO.1)).trans hOc) ?_
  refine mi_blk okL_ofSector 1 (pc' := 21) (lv' := [(0, .ref B), (1, .int (nI k)), (2, .int 2), (3, .ref O)]) (st' := []) rfl ?_
  refine mi_blk okL_ofSector 1 (pc' := 22) (lv' := [(0, .ref B), (1, .int (nI k)), (2, .int 2), (3, .ref O)]) (st' := [.int 0]) rfl ?_
  exact mi_ret_i okL_ofSector rfl rfl rfl ⟨rfl, hp.ret f⟩
set_option maxHeartbeats 4000000 in
set_option maxRecDepth 100000 in
theorem e_ofSector_3 {X : mi_X} {h : mi_H} {B : Nat} (hw : ph_W B ph_0 (fun _ _ => 0) (fun _ _ => 0) h) {O : Nat} (hO : B + 518 ≤ O ∧ O < h.1) {g : Nat → Int64} (hOc : h.2 O = oL g) (hX : mi_X23 X) {k : Nat} (hk : k < 240) : mi_SH pP X kL_ofSector 8 [.ref B, .int (nI k), .int 3, .ref O] h 1 6 (fun r h1 => r = some (.int 0) ∧ hp B h O (oL (va_up g 0 ((2 : Int32).toInt64))) 0 h1) := by
  refine ehL_ofSector (Nat.le_of_ble_eq_true rfl) ?_
  refine mi_blk okL_ofSector 5 (pc' := 5) (lv' := [(0, .ref B), (1, .int (nI k)), (2, .int 3), (3, .ref O)]) (st' := [.int 3, .int (nI k), .ref B, .int 0, .ref O]) rfl ?_
  refine mi_callV okL_ofSector (mc := 1) (ms := 6) (mc' := 0) (ms' := 0) (b := B) (As := [.int (nI k), .int 3]) (st := [.int 0, .ref O]) rfl cv_RL_58 rfl (by decide) (show 6 ≤ _ by have := hw.z; omega) (show _ < h.1 by have := hw.z; omega) hw.ph rfl (Nat.le_of_ble_eq_true rfl) (f_ofSector_3 hw hX hk) (fun r h1 q => ?_)
  obtain ⟨rfl, e9⟩ := q; have f : fr B h h1 := (by subst e9; exact ⟨rfl, fun _ _ => rfl⟩)
  change mi_WX _ pP X kL_ofSector 8 1 6 8 [(0, .ref B), (1, .int (nI k)), (2, .int 3), (3, .ref O)] [.int 2, .int 0, .ref O] h1 _
  refine mi_blk okL_ofSector 1 (pc' := 9) (lv' := [(0, .ref B), (1, .int (nI k)), (2, .int 3), (3, .ref O)]) (st' := [.long ((2 : Int32).toInt64), .int 0, .ref O]) rfl ?_
  refine mo_lst okL_ofSector rfl (show 6 ≤ O by have := hw.z; omega) (by rw [f.1]; exact hO.2) ((f.2 O (Or.inr hO.1)).trans hOc) ?_
  refine mi_blk okL_ofSector 1 (pc' := 21) (lv' := [(0, .ref B), (1, .int (nI k)), (2, .int 3), (3, .ref O)]) (st' := []) rfl ?_
  refine mi_blk okL_ofSector 1 (pc' := 22) (lv' := [(0, .ref B), (1, .int (nI k)), (2, .int 3), (3, .ref O)]) (st' := [.int 0]) rfl ?_
  exact mi_ret_i okL_ofSector rfl rfl rfl ⟨rfl, hp.ret f⟩
set_option maxHeartbeats 4000000 in
set_option maxRecDepth 100000 in
theorem e_ofSector_4 {X : mi_X} {h : mi_H} {B : Nat} (hw : ph_W B ph_0 (fun _ _ => 0) (fun _ _ => 0) h) {O : Nat} (hO : B + 518 ≤ O ∧ O < h.1) {g : Nat → Int64} (hOc : h.2 O = oL g) (hX : mi_X23 X) {k : Nat} (hk : k < 240) : mi_SH pP X kL_ofSector 8 [.ref B, .int (nI k), .int 4, .ref O] h 1 6 (fun r h1 => r = some (.int 0) ∧ hp B h O (oL (va_up g 0 ((0 : Int32).toInt64))) 0 h1) := by
  refine ehL_ofSector (Nat.le_of_ble_eq_true rfl) ?_
  refine mi_blk okL_ofSector 5 (pc' := 5) (lv' := [(0, .ref B), (1, .int (nI k)), (2, .int 4), (3, .ref O)]) (st' := [.int 4, .int (nI k), .ref B, .int 0, .ref O]) rfl ?_
  refine mi_callV okL_ofSector (mc := 1) (ms := 6) (mc' := 0) (ms' := 0) (b := B) (As := [.int (nI k), .int 4]) (st := [.int 0, .ref O]) rfl cv_RL_58 rfl (by decide) (show 6 ≤ _ by have := hw.z; omega) (show _ < h.1 by have := hw.z; omega) hw.ph rfl (Nat.le_of_ble_eq_true rfl) (f_ofSector_4 hw hX hk) (fun r h1 q => ?_)
  obtain ⟨rfl, e9⟩ := q; have f : fr B h h1 := (by subst e9; exact ⟨rfl, fun _ _ => rfl⟩)
  change mi_WX _ pP X kL_ofSector 8 1 6 8 [(0, .ref B), (1, .int (nI k)), (2, .int 4), (3, .ref O)] [.int 0, .int 0, .ref O] h1 _
  refine mi_blk okL_ofSector 1 (pc' := 9) (lv' := [(0, .ref B), (1, .int (nI k)), (2, .int 4), (3, .ref O)]) (st' := [.long ((0 : Int32).toInt64), .int 0, .ref O]) rfl ?_
  refine mo_lst okL_ofSector rfl (show 6 ≤ O by have := hw.z; omega) (by rw [f.1]; exact hO.2) ((f.2 O (Or.inr hO.1)).trans hOc) ?_
  refine mi_blk okL_ofSector 1 (pc' := 21) (lv' := [(0, .ref B), (1, .int (nI k)), (2, .int 4), (3, .ref O)]) (st' := []) rfl ?_
  refine mi_blk okL_ofSector 1 (pc' := 22) (lv' := [(0, .ref B), (1, .int (nI k)), (2, .int 4), (3, .ref O)]) (st' := [.int 0]) rfl ?_
  exact mi_ret_i okL_ofSector rfl rfl rfl ⟨rfl, hp.ret f⟩
set_option maxHeartbeats 4000000 in
set_option maxRecDepth 100000 in
theorem e_ofSector_5 {X : mi_X} {h : mi_H} {B : Nat} (hw : ph_W B ph_0 (fun _ _ => 0) (fun _ _ => 0) h) {O : Nat} (hO : B + 518 ≤ O ∧ O < h.1) {g : Nat → Int64} (hOc : h.2 O = oL g) (hX : mi_X23 X) {k : Nat} (hk : k < 240) : mi_SH pP X kL_ofSector 8 [.ref B, .int (nI k), .int 5, .ref O] h 1 6 (fun r h1 => r = some (.int 0) ∧ hp B h O (oL (va_up g 0 ((0 : Int32).toInt64))) 0 h1) := by
  refine ehL_ofSector (Nat.le_of_ble_eq_true rfl) ?_
  refine mi_blk okL_ofSector 5 (pc' := 5) (lv' := [(0, .ref B), (1, .int (nI k)), (2, .int 5), (3, .ref O)]) (st' := [.int 5, .int (nI k), .ref B, .int 0, .ref O]) rfl ?_
  refine mi_callV okL_ofSector (mc := 1) (ms := 6) (mc' := 0) (ms' := 0) (b := B) (As := [.int (nI k), .int 5]) (st := [.int 0, .ref O]) rfl cv_RL_58 rfl (by decide) (show 6 ≤ _ by have := hw.z; omega) (show _ < h.1 by have := hw.z; omega) hw.ph rfl (Nat.le_of_ble_eq_true rfl) (f_ofSector_5 hw hX hk) (fun r h1 q => ?_)
  obtain ⟨rfl, e9⟩ := q; have f : fr B h h1 := (by subst e9; exact ⟨rfl, fun _ _ => rfl⟩)
  change mi_WX _ pP X kL_ofSector 8 1 6 8 [(0, .ref B), (1, .int (nI k)), (2, .int 5), (3, .ref O)] [.int 0, .int 0, .ref O] h1 _
  refine mi_blk okL_ofSector 1 (pc' := 9) (lv' := [(0, .ref B), (1, .int (nI k)), (2, .int 5), (3, .ref O)]) (st' := [.long ((0 : Int32).toInt64), .int 0, .ref O]) rfl ?_
  refine mo_lst okL_ofSector rfl (show 6 ≤ O by have := hw.z; omega) (by rw [f.1]; exact hO.2) ((f.2 O (Or.inr hO.1)).trans hOc) ?_
  refine mi_blk okL_ofSector 1 (pc' := 21) (lv' := [(0, .ref B), (1, .int (nI k)), (2, .int 5), (3, .ref O)]) (st' := []) rfl ?_
  refine mi_blk okL_ofSector 1 (pc' := 22) (lv' := [(0, .ref B), (1, .int (nI k)), (2, .int 5), (3, .ref O)]) (st' := [.int 0]) rfl ?_
  exact mi_ret_i okL_ofSector rfl rfl rfl ⟨rfl, hp.ret f⟩
set_option maxHeartbeats 4000000 in
set_option maxRecDepth 100000 in
theorem e_ofSector_6 {X : mi_X} {h : mi_H} {B : Nat} (hw : ph_W B ph_0 (fun _ _ => 0) (fun _ _ => 0) h) {O : Nat} (hO : B + 518 ≤ O ∧ O < h.1) {g : Nat → Int64} (hOc : h.2 O = oL g) (hX : mi_X23 X) {k : Nat} (hk : k < 240) : mi_SH pP X kL_ofSector 8 [.ref B, .int (nI k), .int 6, .ref O] h 1 6 (fun r h1 => r = some (.int 0) ∧ hp B h O (oL (va_up g 0 ((0 : Int32).toInt64))) 0 h1) := by
  refine ehL_ofSector (Nat.le_of_ble_eq_true rfl) ?_
  refine mi_blk okL_ofSector 5 (pc' := 5) (lv' := [(0, .ref B), (1, .int (nI k)), (2, .int 6), (3, .ref O)]) (st' := [.int 6, .int (nI k), .ref B, .int 0, .ref O]) rfl ?_
  refine mi_callV okL_ofSector (mc := 1) (ms := 6) (mc' := 0) (ms' := 0) (b := B) (As := [.int (nI k), .int 6]) (st := [.int 0, .ref O]) rfl cv_RL_58 rfl (by decide) (show 6 ≤ _ by have := hw.z; omega) (show _ < h.1 by have := hw.z; omega) hw.ph rfl (Nat.le_of_ble_eq_true rfl) (f_ofSector_6 hw hX hk) (fun r h1 q => ?_)
  obtain ⟨rfl, e9⟩ := q; have f : fr B h h1 := (by subst e9; exact ⟨rfl, fun _ _ => rfl⟩)
  change mi_WX _ pP X kL_ofSector 8 1 6 8 [(0, .ref B), (1, .int (nI k)), (2, .int 6), (3, .ref O)] [.int 0, .int 0, .ref O] h1 _
  refine mi_blk okL_ofSector 1 (pc' := 9) (lv' := [(0, .ref B), (1, .int (nI k)), (2, .int 6), (3, .ref O)]) (st' := [.long ((0 : Int32).toInt64), .int 0, .ref O]) rfl ?_
  refine mo_lst okL_ofSector rfl (show 6 ≤ O by have := hw.z; omega) (by rw [f.1]; exact hO.2) ((f.2 O (Or.inr hO.1)).trans hOc) ?_
  refine mi_blk okL_ofSector 1 (pc' := 21) (lv' := [(0, .ref B), (1, .int (nI k)), (2, .int 6), (3, .ref O)]) (st' := []) rfl ?_
  refine mi_blk okL_ofSector 1 (pc' := 22) (lv' := [(0, .ref B), (1, .int (nI k)), (2, .int 6), (3, .ref O)]) (st' := [.int 0]) rfl ?_
  exact mi_ret_i okL_ofSector rfl rfl rfl ⟨rfl, hp.ret f⟩
set_option maxHeartbeats 4000000 in
set_option maxRecDepth 100000 in
theorem e_ofSector_7 {X : mi_X} {h : mi_H} {B : Nat} (hw : ph_W B ph_0 (fun _ _ => 0) (fun _ _ => 0) h) {O : Nat} (hO : B + 518 ≤ O ∧ O < h.1) {g : Nat → Int64} (hOc : h.2 O = oL g) (hX : mi_X23 X) {k : Nat} (hk : k < 240) : mi_SH pP X kL_ofSector 8 [.ref B, .int (nI k), .int 7, .ref O] h 1 6 (fun r h1 => r = some (.int 0) ∧ hp B h O (oL (va_up g 0 ((sp_turn (nI k)).toInt64))) 0 h1) := by
  refine ehL_ofSector (Nat.le_of_ble_eq_true rfl) ?_
  refine mi_blk okL_ofSector 5 (pc' := 5) (lv' := [(0, .ref B), (1, .int (nI k)), (2, .int 7), (3, .ref O)]) (st' := [.int 7, .int (nI k), .ref B, .int 0, .ref O]) rfl ?_
  refine mi_callV okL_ofSector (mc := 1) (ms := 6) (mc' := 0) (ms' := 0) (b := B) (As := [.int (nI k), .int 7]) (st := [.int 0, .ref O]) rfl cv_RL_58 rfl (by decide) (show 6 ≤ _ by have := hw.z; omega) (show _ < h.1 by have := hw.z; omega) hw.ph rfl (Nat.le_of_ble_eq_true rfl) (f_ofSector_7 hw hX hk) (fun r h1 q => ?_)
  obtain ⟨rfl, e9⟩ := q; have f : fr B h h1 := (by subst e9; exact ⟨rfl, fun _ _ => rfl⟩)
  change mi_WX _ pP X kL_ofSector 8 1 6 8 [(0, .ref B), (1, .int (nI k)), (2, .int 7), (3, .ref O)] [.int (sp_turn (nI k)), .int 0, .ref O] h1 _
  refine mi_blk okL_ofSector 1 (pc' := 9) (lv' := [(0, .ref B), (1, .int (nI k)), (2, .int 7), (3, .ref O)]) (st' := [.long ((sp_turn (nI k)).toInt64), .int 0, .ref O]) rfl ?_
  refine mo_lst okL_ofSector rfl (show 6 ≤ O by have := hw.z; omega) (by rw [f.1]; exact hO.2) ((f.2 O (Or.inr hO.1)).trans hOc) ?_
  refine mi_blk okL_ofSector 1 (pc' := 21) (lv' := [(0, .ref B), (1, .int (nI k)), (2, .int 7), (3, .ref O)]) (st' := []) rfl ?_
  refine mi_blk okL_ofSector 1 (pc' := 22) (lv' := [(0, .ref B), (1, .int (nI k)), (2, .int 7), (3, .ref O)]) (st' := [.int 0]) rfl ?_
  exact mi_ret_i okL_ofSector rfl rfl rfl ⟨rfl, hp.ret f⟩
set_option maxHeartbeats 4000000 in
set_option maxRecDepth 100000 in
theorem e_ofSector_8 {X : mi_X} {h : mi_H} {B : Nat} (hw : ph_W B ph_0 (fun _ _ => 0) (fun _ _ => 0) h) {O : Nat} (hO : B + 518 ≤ O ∧ O < h.1) {g : Nat → Int64} (hOc : h.2 O = oL g) (hX : mi_X23 X) {k : Nat} (hk : k < 240) : mi_SH pP X kL_ofSector 8 [.ref B, .int (nI k), .int 8, .ref O] h 1 6 (fun r h1 => r = some (.int 0) ∧ hp B h O (oL (va_up g 0 ((sp_pos (nI k)).toInt64))) 0 h1) := by
  refine ehL_ofSector (Nat.le_of_ble_eq_true rfl) ?_
  refine mi_blk okL_ofSector 5 (pc' := 5) (lv' := [(0, .ref B), (1, .int (nI k)), (2, .int 8), (3, .ref O)]) (st' := [.int 8, .int (nI k), .ref B, .int 0, .ref O]) rfl ?_
  refine mi_callV okL_ofSector (mc := 1) (ms := 6) (mc' := 0) (ms' := 0) (b := B) (As := [.int (nI k), .int 8]) (st := [.int 0, .ref O]) rfl cv_RL_58 rfl (by decide) (show 6 ≤ _ by have := hw.z; omega) (show _ < h.1 by have := hw.z; omega) hw.ph rfl (Nat.le_of_ble_eq_true rfl) (f_ofSector_8 hw hX hk) (fun r h1 q => ?_)
  obtain ⟨rfl, e9⟩ := q; have f : fr B h h1 := (by subst e9; exact ⟨rfl, fun _ _ => rfl⟩)
  change mi_WX _ pP X kL_ofSector 8 1 6 8 [(0, .ref B), (1, .int (nI k)), (2, .int 8), (3, .ref O)] [.int (sp_pos (nI k)), .int 0, .ref O] h1 _
  refine mi_blk okL_ofSector 1 (pc' := 9) (lv' := [(0, .ref B), (1, .int (nI k)), (2, .int 8), (3, .ref O)]) (st' := [.long ((sp_pos (nI k)).toInt64), .int 0, .ref O]) rfl ?_
  refine mo_lst okL_ofSector rfl (show 6 ≤ O by have := hw.z; omega) (by rw [f.1]; exact hO.2) ((f.2 O (Or.inr hO.1)).trans hOc) ?_
  refine mi_blk okL_ofSector 1 (pc' := 21) (lv' := [(0, .ref B), (1, .int (nI k)), (2, .int 8), (3, .ref O)]) (st' := []) rfl ?_
  refine mi_blk okL_ofSector 1 (pc' := 22) (lv' := [(0, .ref B), (1, .int (nI k)), (2, .int 8), (3, .ref O)]) (st' := [.int 0]) rfl ?_
  exact mi_ret_i okL_ofSector rfl rfl rfl ⟨rfl, hp.ret f⟩
set_option maxHeartbeats 4000000 in
set_option maxRecDepth 100000 in
theorem e_ofSector_w {X : mi_X} {h : mi_H} {B : Nat} (hw : ph_W B ph_0 (fun _ _ => 0) (fun _ _ => 0) h) {O : Nat} (hO : B + 518 ≤ O ∧ O < h.1) {g : Nat → Int64} (hOc : h.2 O = oL g) {k : Nat} (hk : k < 240) {y : Int32} (hy : y.toInt < 0 ∨ 8 < y.toInt) : mi_SH pP X kL_ofSector 8 [.ref B, .int (nI k), .int y, .ref O] h 1 6 (fun r h1 => r = some (.int 2) ∧ hp B h O (oL g) 2 h1) := by
  refine ehL_ofSector (Nat.le_of_ble_eq_true rfl) ?_
  refine mi_blk okL_ofSector 5 (pc' := 5) (lv' := [(0, .ref B), (1, .int (nI k)), (2, .int y), (3, .ref O)]) (st' := [.int y, .int (nI k), .ref B, .int 0, .ref O]) rfl ?_
  refine mi_callVX okL_ofSector (mc := 0) (ms := 0) (mc' := 1) (ms' := 6) (b := B) (As := [.int (nI k), .int y]) (st := [.int 0, .ref O]) rfl cv_RL_58 rfl (by decide) (show 6 ≤ _ by have := hw.z; omega) (show _ < h.1 by have := hw.z; omega) hw.ph rfl (Nat.le_of_ble_eq_true rfl) (x_ofSector_w hw hk hy) (fun r h1 q => q.elim) (fun ce a h1 c1 q => ?_)
  obtain ⟨e8, e9⟩ := q; subst e8; subst e9
  refine mi_TX.take (E := "java/lang/IllegalArgumentException") (nm := "java/lang/IllegalArgumentException") c1 rfl (tableOf [(0, 10, 13, 25)]) _ _ rfl (ps_c (by decide) cl_RL_25 (fun _ _ _ h => h.2.2.1) ps_0) rfl (by decide) cl_RL_19 ca_IllegalArgumentException ?_
  change mi_WX _ pP X kL_ofSector 8 0 0 17 [(0, .ref B), (1, .int (nI k)), (2, .int y), (3, .ref O)] [.ref a] (mi_psh h (.inr (11, []))) _
  refine mi_blk okL_ofSector 1 (pc' := 19) (lv' := [(4, .ref a), (0, .ref B), (1, .int (nI k)), (2, .int y), (3, .ref O)]) (st' := []) rfl ?_
  refine mi_blk okL_ofSector 1 (pc' := 20) (lv' := [(4, .ref a), (0, .ref B), (1, .int (nI k)), (2, .int y), (3, .ref O)]) (st' := [.int 2]) rfl ?_
  exact mi_ret_i okL_ofSector rfl rfl rfl ⟨rfl, hp.thr (by decide)⟩
set_option maxHeartbeats 4000000 in
set_option maxRecDepth 100000 in
theorem e_nibbles_0 {X : mi_X} {h : mi_H} {B : Nat} (hw : ph_W B ph_0 (fun _ _ => 0) (fun _ _ => 0) h) {O : Nat} (hO : B + 518 ≤ O ∧ O < h.1) {g : Nat → Int64} (hOc : h.2 O = oL g) {k : Nat} (hk : k < 240) : mi_SH pP X kL_nibbles 8 [.ref B, .int (nI k), .int 0, .ref O] h 1 6 (fun r h1 => r = some (.int 0) ∧ hp B h O (oL (va_up g 0 (-1))) 0 h1) := by
  refine ehL_nibbles (Nat.le_of_ble_eq_true rfl) ?_
  refine mi_blk okL_nibbles 5 (pc' := 5) (lv' := [(0, .ref B), (1, .int (nI k)), (2, .int 0), (3, .ref O)]) (st' := [.int 0, .int (nI k), .ref B, .int 0, .ref O]) rfl ?_
  refine mi_callV okL_nibbles (mc := 1) (ms := 6) (mc' := 0) (ms' := 0) (b := B) (As := [.int (nI k), .int 0]) (st := [.int 0, .ref O]) rfl cv_RL_61 rfl (by decide) (show 6 ≤ _ by have := hw.z; omega) (show _ < h.1 by have := hw.z; omega) hw.ph rfl (Nat.le_of_ble_eq_true rfl) (f_nibbles_0 hw hk) (fun r h1 q => ?_)
  obtain ⟨rfl, e9⟩ := q; have f : fr B h h1 := (by subst e9; exact ⟨rfl, fun _ _ => rfl⟩)
  change mi_WX _ pP X kL_nibbles 8 1 6 8 [(0, .ref B), (1, .int (nI k)), (2, .int 0), (3, .ref O)] [.long (-1), .int 0, .ref O] h1 _
  refine mo_lst okL_nibbles rfl (show 6 ≤ O by have := hw.z; omega) (by rw [f.1]; exact hO.2) ((f.2 O (Or.inr hO.1)).trans hOc) ?_
  refine mi_blk okL_nibbles 1 (pc' := 16) (lv' := [(0, .ref B), (1, .int (nI k)), (2, .int 0), (3, .ref O)]) (st' := []) rfl ?_
  refine mi_blk okL_nibbles 1 (pc' := 17) (lv' := [(0, .ref B), (1, .int (nI k)), (2, .int 0), (3, .ref O)]) (st' := [.int 0]) rfl ?_
  exact mi_ret_i okL_nibbles rfl rfl rfl ⟨rfl, hp.ret f⟩
set_option maxHeartbeats 4000000 in
set_option maxRecDepth 100000 in
theorem e_nibbles_1 {X : mi_X} {h : mi_H} {B : Nat} (hw : ph_W B ph_0 (fun _ _ => 0) (fun _ _ => 0) h) {O : Nat} (hO : B + 518 ≤ O ∧ O < h.1) {g : Nat → Int64} (hOc : h.2 O = oL g) {k : Nat} (hk : k < 240) : mi_SH pP X kL_nibbles 8 [.ref B, .int (nI k), .int 1, .ref O] h 1 6 (fun r h1 => r = some (.int 0) ∧ hp B h O (oL (va_up g 0 (-1))) 0 h1) := by
  refine ehL_nibbles (Nat.le_of_ble_eq_true rfl) ?_
  refine mi_blk okL_nibbles 5 (pc' := 5) (lv' := [(0, .ref B), (1, .int (nI k)), (2, .int 1), (3, .ref O)]) (st' := [.int 1, .int (nI k), .ref B, .int 0, .ref O]) rfl ?_
  refine mi_callV okL_nibbles (mc := 1) (ms := 6) (mc' := 0) (ms' := 0) (b := B) (As := [.int (nI k), .int 1]) (st := [.int 0, .ref O]) rfl cv_RL_61 rfl (by decide) (show 6 ≤ _ by have := hw.z; omega) (show _ < h.1 by have := hw.z; omega) hw.ph rfl (Nat.le_of_ble_eq_true rfl) (f_nibbles_1 hw hk) (fun r h1 q => ?_)
  obtain ⟨rfl, e9⟩ := q; have f : fr B h h1 := (by subst e9; exact ⟨rfl, fun _ _ => rfl⟩)
  change mi_WX _ pP X kL_nibbles 8 1 6 8 [(0, .ref B), (1, .int (nI k)), (2, .int 1), (3, .ref O)] [.long (-1), .int 0, .ref O] h1 _
  refine mo_lst okL_nibbles rfl (show 6 ≤ O by have := hw.z; omega) (by rw [f.1]; exact hO.2) ((f.2 O (Or.inr hO.1)).trans hOc) ?_
  refine mi_blk okL_nibbles 1 (pc' := 16) (lv' := [(0, .ref B), (1, .int (nI k)), (2, .int 1), (3, .ref O)]) (st' := []) rfl ?_
  refine mi_blk okL_nibbles 1 (pc' := 17) (lv' := [(0, .ref B), (1, .int (nI k)), (2, .int 1), (3, .ref O)]) (st' := [.int 0]) rfl ?_
  exact mi_ret_i okL_nibbles rfl rfl rfl ⟨rfl, hp.ret f⟩
set_option maxHeartbeats 4000000 in
set_option maxRecDepth 100000 in
theorem e_place_p {X : mi_X} {h : mi_H} {B : Nat} (hw : ph_W B ph_0 (fun _ _ => 0) (fun _ _ => 0) h) {O : Nat} (hO : B + 518 ≤ O ∧ O < h.1) {g : Nat → Int64} (hOc : h.2 O = oL g) {k : Nat} (hk : k < 240) {y : Int32} (hy : y < 0 ∨ (16 : Int32) ≤ y) : mi_SH pP X kL_place 8 [.ref B, .int (nI k), .int y, .ref O] h 1 6 (fun r h1 => r = some (.int 1) ∧ hp B h O (oL g) 1 h1) := by
  refine ehL_place (Nat.le_of_ble_eq_true rfl) ?_
  refine mi_blk okL_place 5 (pc' := 5) (lv' := [(0, .ref B), (1, .int (nI k)), (2, .int y), (3, .ref O)]) (st' := [.int y, .int (nI k), .ref B, .int 0, .ref O]) rfl ?_
  refine mi_callVX okL_place (mc := 0) (ms := 0) (mc' := 1) (ms' := 6) (b := B) (As := [.int (nI k), .int y]) (st := [.int 0, .ref O]) rfl cv_RL_65 rfl (by decide) (show 6 ≤ _ by have := hw.z; omega) (show _ < h.1 by have := hw.z; omega) hw.ph rfl (Nat.le_of_ble_eq_true rfl) (x_place_p hw hk hy) (fun r h1 q => q.elim) (fun ce a h1 c1 q => ?_)
  obtain ⟨e8, e9⟩ := q; subst e8; subst e9
  refine mi_TX.take (E := "java/lang/IndexOutOfBoundsException") (nm := "java/lang/IndexOutOfBoundsException") c1 rfl ([]) _ _ rfl ps_0 rfl (by decide) cl_RL_25 ca_IndexOutOfBoundsException ?_
  change mi_WX _ pP X kL_place 8 0 0 13 [(0, .ref B), (1, .int (nI k)), (2, .int y), (3, .ref O)] [.ref a] (mi_psh h (.inr (12, []))) _
  refine mi_blk okL_place 1 (pc' := 15) (lv' := [(4, .ref a), (0, .ref B), (1, .int (nI k)), (2, .int y), (3, .ref O)]) (st' := []) rfl ?_
  refine mi_blk okL_place 1 (pc' := 16) (lv' := [(4, .ref a), (0, .ref B), (1, .int (nI k)), (2, .int y), (3, .ref O)]) (st' := [.int 1]) rfl ?_
  exact mi_ret_i okL_place rfl rfl rfl ⟨rfl, hp.thr (by decide)⟩
set_option maxHeartbeats 4000000 in
set_option maxRecDepth 100000 in
theorem e_place {X : mi_X} {h : mi_H} {B : Nat} (hw : ph_W B ph_0 (fun _ _ => 0) (fun _ _ => 0) h) {O : Nat} (hO : B + 518 ≤ O ∧ O < h.1) {g : Nat → Int64} (hOc : h.2 O = oL g) {k : Nat} (hk : k < 240) {y : Int32} (g1 : ¬ y < 0) (g2 : y < 16) : mi_SH pP X kL_place 8 [.ref B, .int (nI k), .int y, .ref O] h 1 6 (fun r h1 => r = some (.int 0) ∧ hp B h O (oL (va_up g 0 (((-1) : Int32).toInt64))) 0 h1) := by
  refine ehL_place (Nat.le_of_ble_eq_true rfl) ?_
  refine mi_blk okL_place 5 (pc' := 5) (lv' := [(0, .ref B), (1, .int (nI k)), (2, .int y), (3, .ref O)]) (st' := [.int y, .int (nI k), .ref B, .int 0, .ref O]) rfl ?_
  refine mi_callV okL_place (mc := 1) (ms := 6) (mc' := 0) (ms' := 0) (b := B) (As := [.int (nI k), .int y]) (st := [.int 0, .ref O]) rfl cv_RL_65 rfl (by decide) (show 6 ≤ _ by have := hw.z; omega) (show _ < h.1 by have := hw.z; omega) hw.ph rfl (Nat.le_of_ble_eq_true rfl) (f_place hw hk g1 g2) (fun r h1 q => ?_)
  obtain ⟨rfl, e9⟩ := q; have f : fr B h h1 := (by subst e9; exact ⟨rfl, fun _ _ => rfl⟩)
  change mi_WX _ pP X kL_place 8 1 6 8 [(0, .ref B), (1, .int (nI k)), (2, .int y), (3, .ref O)] [.int (-1), .int 0, .ref O] h1 _
  refine mi_blk okL_place 1 (pc' := 9) (lv' := [(0, .ref B), (1, .int (nI k)), (2, .int y), (3, .ref O)]) (st' := [.long (((-1) : Int32).toInt64), .int 0, .ref O]) rfl ?_
  refine mo_lst okL_place rfl (show 6 ≤ O by have := hw.z; omega) (by rw [f.1]; exact hO.2) ((f.2 O (Or.inr hO.1)).trans hOc) ?_
  refine mi_blk okL_place 1 (pc' := 17) (lv' := [(0, .ref B), (1, .int (nI k)), (2, .int y), (3, .ref O)]) (st' := []) rfl ?_
  refine mi_blk okL_place 1 (pc' := 18) (lv' := [(0, .ref B), (1, .int (nI k)), (2, .int y), (3, .ref O)]) (st' := [.int 0]) rfl ?_
  exact mi_ret_i okL_place rfl rfl rfl ⟨rfl, hp.ret f⟩
set_option maxHeartbeats 4000000 in
set_option maxRecDepth 100000 in
theorem e_play_n {X : mi_X} {h : mi_H} {B : Nat} (hw : ph_W B ph_0 (fun _ _ => 0) (fun _ _ => 0) h) {O : Nat} (hO : B + 518 ≤ O ∧ O < h.1) {g : Nat → UInt64} (hOc : h.2 O = oD g) {k : Nat} (hk : k < 240) : mi_SH pP X kL_play 8 [.ref B, .int (nI k), .ref O] h 1 6 (fun r h1 => r = some (.int 2) ∧ hp B h O (oD g) 2 h1) := by
  refine ehL_play (Nat.le_of_ble_eq_true rfl) ?_
  refine mi_blk okL_play 4 (pc' := 4) (lv' := [(0, .ref B), (1, .int (nI k)), (2, .ref O)]) (st' := [.int (nI k), .ref B, .int 0, .ref O]) rfl ?_
  refine mi_callVX okL_play (mc := 0) (ms := 0) (mc' := 1) (ms' := 6) (b := B) (As := [.int (nI k)]) (st := [.int 0, .ref O]) rfl cv_RL_74 rfl (by decide) (show 6 ≤ _ by have := hw.z; omega) (show _ < h.1 by have := hw.z; omega) hw.ph rfl (Nat.le_of_ble_eq_true rfl) (x_play_n hw hk) (fun r h1 q => q.elim) (fun ce a h1 c1 q => ?_)
  obtain ⟨e8, e9⟩ := q; subst e8; subst e9
  refine mi_TX.take (E := "java/lang/IllegalArgumentException") (nm := "java/lang/IllegalArgumentException") c1 rfl (tableOf [(0, 8, 11, 25)]) _ _ rfl (ps_c (by decide) cl_RL_25 (fun _ _ _ h => h.2.2.1) ps_0) rfl (by decide) cl_RL_19 ca_IllegalArgumentException ?_
  change mi_WX _ pP X kL_play 8 0 0 14 [(0, .ref B), (1, .int (nI k)), (2, .ref O)] [.ref a] (mi_psh h (.inr (11, []))) _
  refine mi_blk okL_play 1 (pc' := 15) (lv' := [(3, .ref a), (0, .ref B), (1, .int (nI k)), (2, .ref O)]) (st' := []) rfl ?_
  refine mi_blk okL_play 1 (pc' := 16) (lv' := [(3, .ref a), (0, .ref B), (1, .int (nI k)), (2, .ref O)]) (st' := [.int 2]) rfl ?_
  exact mi_ret_i okL_play rfl rfl rfl ⟨rfl, hp.thr (by decide)⟩
set_option maxHeartbeats 4000000 in
set_option maxRecDepth 100000 in
theorem e_many_w {X : mi_X} {h : mi_H} {B : Nat} (hw : ph_W B ph_0 (fun _ _ => 0) (fun _ _ => 0) h) {O : Nat} (hO : B + 518 ≤ O ∧ O < h.1) {g : Nat → Int64} (hOc : h.2 O = oL g) {x : Int32} (hx : x.toInt < 0 ∨ 12 < x.toInt) : mi_SH pP X kL_many 8 [.ref B, .int x, .ref O] h 1 6 (fun r h1 => r = some (.int 1) ∧ hp B h O (oL g) 1 h1) := by
  refine ehL_many (Nat.le_of_ble_eq_true rfl) ?_
  refine mi_blk okL_many 4 (pc' := 4) (lv' := [(0, .ref B), (1, .int x), (2, .ref O)]) (st' := [.int x, .ref B, .int 0, .ref O]) rfl ?_
  refine mi_callVX okL_many (mc := 0) (ms := 0) (mc' := 1) (ms' := 6) (b := B) (As := [.int x]) (st := [.int 0, .ref O]) rfl cv_RL_77 rfl (by decide) (show 6 ≤ _ by have := hw.z; omega) (show _ < h.1 by have := hw.z; omega) hw.ph rfl (Nat.le_of_ble_eq_true rfl) (x_many hw hx) (fun r h1 q => q.elim) (fun ce a h1 c1 q => ?_)
  obtain ⟨e8, e9⟩ := q; subst e8; subst e9
  refine mi_TX.take (E := "java/lang/IllegalArgumentException") (nm := "java/lang/IllegalArgumentException") c1 rfl ([]) _ _ rfl ps_0 rfl (by decide) cl_RL_19 ca_IllegalArgumentException ?_
  change mi_WX _ pP X kL_many 8 0 0 12 [(0, .ref B), (1, .int x), (2, .ref O)] [.ref a] (mi_psh h (.inr (11, []))) _
  refine mi_blk okL_many 1 (pc' := 13) (lv' := [(3, .ref a), (0, .ref B), (1, .int x), (2, .ref O)]) (st' := []) rfl ?_
  refine mi_blk okL_many 1 (pc' := 14) (lv' := [(3, .ref a), (0, .ref B), (1, .int x), (2, .ref O)]) (st' := [.int 1]) rfl ?_
  exact mi_ret_i okL_many rfl rfl rfl ⟨rfl, hp.thr (by decide)⟩
set_option maxHeartbeats 4000000 in
set_option maxRecDepth 100000 in
theorem e_many_0 {X : mi_X} {h : mi_H} {B : Nat} (hw : ph_W B ph_0 (fun _ _ => 0) (fun _ _ => 0) h) {O : Nat} (hO : B + 518 ≤ O ∧ O < h.1) {g : Nat → Int64} (hOc : h.2 O = oL g) : mi_SH pP X kL_many 8 [.ref B, .int 0, .ref O] h 1 6 (fun r h1 => r = some (.int 0) ∧ hp B h O (oL (va_up g 0 ((0 : Int32).toInt64))) 0 h1) := by
  refine ehL_many (Nat.le_of_ble_eq_true rfl) ?_
  refine mi_blk okL_many 4 (pc' := 4) (lv' := [(0, .ref B), (1, .int 0), (2, .ref O)]) (st' := [.int 0, .ref B, .int 0, .ref O]) rfl ?_
  refine mi_callV okL_many (mc := 1) (ms := 6) (mc' := 0) (ms' := 0) (b := B) (As := [.int 0]) (st := [.int 0, .ref O]) rfl cv_RL_77 rfl (by decide) (show 6 ≤ _ by have := hw.z; omega) (show _ < h.1 by have := hw.z; omega) hw.ph rfl (Nat.le_of_ble_eq_true rfl) (f_many_0 hw) (fun r h1 q => ?_)
  obtain ⟨rfl, e9⟩ := q; have f : fr B h h1 := (by subst e9; exact ⟨rfl, fun _ _ => rfl⟩)
  change mi_WX _ pP X kL_many 8 1 6 7 [(0, .ref B), (1, .int 0), (2, .ref O)] [.int 0, .int 0, .ref O] h1 _
  refine mi_blk okL_many 1 (pc' := 8) (lv' := [(0, .ref B), (1, .int 0), (2, .ref O)]) (st' := [.long ((0 : Int32).toInt64), .int 0, .ref O]) rfl ?_
  refine mo_lst okL_many rfl (show 6 ≤ O by have := hw.z; omega) (by rw [f.1]; exact hO.2) ((f.2 O (Or.inr hO.1)).trans hOc) ?_
  refine mi_blk okL_many 1 (pc' := 15) (lv' := [(0, .ref B), (1, .int 0), (2, .ref O)]) (st' := []) rfl ?_
  refine mi_blk okL_many 1 (pc' := 16) (lv' := [(0, .ref B), (1, .int 0), (2, .ref O)]) (st' := [.int 0]) rfl ?_
  exact mi_ret_i okL_many rfl rfl rfl ⟨rfl, hp.ret f⟩
set_option maxHeartbeats 4000000 in
set_option maxRecDepth 100000 in
theorem e_many_1 {X : mi_X} {h : mi_H} {B : Nat} (hw : ph_W B ph_0 (fun _ _ => 0) (fun _ _ => 0) h) {O : Nat} (hO : B + 518 ≤ O ∧ O < h.1) {g : Nat → Int64} (hOc : h.2 O = oL g) : mi_SH pP X kL_many 8 [.ref B, .int 1, .ref O] h 1 6 (fun r h1 => r = some (.int 0) ∧ hp B h O (oL (va_up g 0 ((0 : Int32).toInt64))) 0 h1) := by
  refine ehL_many (Nat.le_of_ble_eq_true rfl) ?_
  refine mi_blk okL_many 4 (pc' := 4) (lv' := [(0, .ref B), (1, .int 1), (2, .ref O)]) (st' := [.int 1, .ref B, .int 0, .ref O]) rfl ?_
  refine mi_callV okL_many (mc := 1) (ms := 6) (mc' := 0) (ms' := 0) (b := B) (As := [.int 1]) (st := [.int 0, .ref O]) rfl cv_RL_77 rfl (by decide) (show 6 ≤ _ by have := hw.z; omega) (show _ < h.1 by have := hw.z; omega) hw.ph rfl (Nat.le_of_ble_eq_true rfl) (f_many_1 hw) (fun r h1 q => ?_)
  obtain ⟨rfl, e9⟩ := q; have f : fr B h h1 := (by subst e9; exact ⟨rfl, fun _ _ => rfl⟩)
  change mi_WX _ pP X kL_many 8 1 6 7 [(0, .ref B), (1, .int 1), (2, .ref O)] [.int 0, .int 0, .ref O] h1 _
  refine mi_blk okL_many 1 (pc' := 8) (lv' := [(0, .ref B), (1, .int 1), (2, .ref O)]) (st' := [.long ((0 : Int32).toInt64), .int 0, .ref O]) rfl ?_
  refine mo_lst okL_many rfl (show 6 ≤ O by have := hw.z; omega) (by rw [f.1]; exact hO.2) ((f.2 O (Or.inr hO.1)).trans hOc) ?_
  refine mi_blk okL_many 1 (pc' := 15) (lv' := [(0, .ref B), (1, .int 1), (2, .ref O)]) (st' := []) rfl ?_
  refine mi_blk okL_many 1 (pc' := 16) (lv' := [(0, .ref B), (1, .int 1), (2, .ref O)]) (st' := [.int 0]) rfl ?_
  exact mi_ret_i okL_many rfl rfl rfl ⟨rfl, hp.ret f⟩
set_option maxHeartbeats 4000000 in
set_option maxRecDepth 100000 in
theorem e_many_2 {X : mi_X} {h : mi_H} {B : Nat} (hw : ph_W B ph_0 (fun _ _ => 0) (fun _ _ => 0) h) {O : Nat} (hO : B + 518 ≤ O ∧ O < h.1) {g : Nat → Int64} (hOc : h.2 O = oL g) : mi_SH pP X kL_many 8 [.ref B, .int 2, .ref O] h 1 6 (fun r h1 => r = some (.int 0) ∧ hp B h O (oL (va_up g 0 ((0 : Int32).toInt64))) 0 h1) := by
  refine ehL_many (Nat.le_of_ble_eq_true rfl) ?_
  refine mi_blk okL_many 4 (pc' := 4) (lv' := [(0, .ref B), (1, .int 2), (2, .ref O)]) (st' := [.int 2, .ref B, .int 0, .ref O]) rfl ?_
  refine mi_callV okL_many (mc := 1) (ms := 6) (mc' := 0) (ms' := 0) (b := B) (As := [.int 2]) (st := [.int 0, .ref O]) rfl cv_RL_77 rfl (by decide) (show 6 ≤ _ by have := hw.z; omega) (show _ < h.1 by have := hw.z; omega) hw.ph rfl (Nat.le_of_ble_eq_true rfl) (f_many_2 hw) (fun r h1 q => ?_)
  obtain ⟨rfl, e9⟩ := q; have f : fr B h h1 := (by subst e9; exact ⟨rfl, fun _ _ => rfl⟩)
  change mi_WX _ pP X kL_many 8 1 6 7 [(0, .ref B), (1, .int 2), (2, .ref O)] [.int 0, .int 0, .ref O] h1 _
  refine mi_blk okL_many 1 (pc' := 8) (lv' := [(0, .ref B), (1, .int 2), (2, .ref O)]) (st' := [.long ((0 : Int32).toInt64), .int 0, .ref O]) rfl ?_
  refine mo_lst okL_many rfl (show 6 ≤ O by have := hw.z; omega) (by rw [f.1]; exact hO.2) ((f.2 O (Or.inr hO.1)).trans hOc) ?_
  refine mi_blk okL_many 1 (pc' := 15) (lv' := [(0, .ref B), (1, .int 2), (2, .ref O)]) (st' := []) rfl ?_
  refine mi_blk okL_many 1 (pc' := 16) (lv' := [(0, .ref B), (1, .int 2), (2, .ref O)]) (st' := [.int 0]) rfl ?_
  exact mi_ret_i okL_many rfl rfl rfl ⟨rfl, hp.ret f⟩
set_option maxHeartbeats 4000000 in
set_option maxRecDepth 100000 in
theorem e_many_3 {X : mi_X} {h : mi_H} {B : Nat} (hw : ph_W B ph_0 (fun _ _ => 0) (fun _ _ => 0) h) {O : Nat} (hO : B + 518 ≤ O ∧ O < h.1) {g : Nat → Int64} (hOc : h.2 O = oL g) : mi_SH pP X kL_many 8 [.ref B, .int 3, .ref O] h 1 6 (fun r h1 => r = some (.int 0) ∧ hp B h O (oL (va_up g 0 ((4 : Int32).toInt64))) 0 h1) := by
  refine ehL_many (Nat.le_of_ble_eq_true rfl) ?_
  refine mi_blk okL_many 4 (pc' := 4) (lv' := [(0, .ref B), (1, .int 3), (2, .ref O)]) (st' := [.int 3, .ref B, .int 0, .ref O]) rfl ?_
  refine mi_callV okL_many (mc := 1) (ms := 6) (mc' := 0) (ms' := 0) (b := B) (As := [.int 3]) (st := [.int 0, .ref O]) rfl cv_RL_77 rfl (by decide) (show 6 ≤ _ by have := hw.z; omega) (show _ < h.1 by have := hw.z; omega) hw.ph rfl (Nat.le_of_ble_eq_true rfl) (f_many_3 hw) (fun r h1 q => ?_)
  obtain ⟨rfl, e9⟩ := q; have f : fr B h h1 := (by subst e9; exact ⟨rfl, fun _ _ => rfl⟩)
  change mi_WX _ pP X kL_many 8 1 6 7 [(0, .ref B), (1, .int 3), (2, .ref O)] [.int 4, .int 0, .ref O] h1 _
  refine mi_blk okL_many 1 (pc' := 8) (lv' := [(0, .ref B), (1, .int 3), (2, .ref O)]) (st' := [.long ((4 : Int32).toInt64), .int 0, .ref O]) rfl ?_
  refine mo_lst okL_many rfl (show 6 ≤ O by have := hw.z; omega) (by rw [f.1]; exact hO.2) ((f.2 O (Or.inr hO.1)).trans hOc) ?_
  refine mi_blk okL_many 1 (pc' := 15) (lv' := [(0, .ref B), (1, .int 3), (2, .ref O)]) (st' := []) rfl ?_
  refine mi_blk okL_many 1 (pc' := 16) (lv' := [(0, .ref B), (1, .int 3), (2, .ref O)]) (st' := [.int 0]) rfl ?_
  exact mi_ret_i okL_many rfl rfl rfl ⟨rfl, hp.ret f⟩
set_option maxHeartbeats 4000000 in
set_option maxRecDepth 100000 in
theorem e_many_4 {X : mi_X} {h : mi_H} {B : Nat} (hw : ph_W B ph_0 (fun _ _ => 0) (fun _ _ => 0) h) {O : Nat} (hO : B + 518 ≤ O ∧ O < h.1) {g : Nat → Int64} (hOc : h.2 O = oL g) : mi_SH pP X kL_many 8 [.ref B, .int 4, .ref O] h 1 6 (fun r h1 => r = some (.int 0) ∧ hp B h O (oL (va_up g 0 ((0 : Int32).toInt64))) 0 h1) := by
  refine ehL_many (Nat.le_of_ble_eq_true rfl) ?_
  refine mi_blk okL_many 4 (pc' := 4) (lv' := [(0, .ref B), (1, .int 4), (2, .ref O)]) (st' := [.int 4, .ref B, .int 0, .ref O]) rfl ?_
  refine mi_callV okL_many (mc := 1) (ms := 6) (mc' := 0) (ms' := 0) (b := B) (As := [.int 4]) (st := [.int 0, .ref O]) rfl cv_RL_77 rfl (by decide) (show 6 ≤ _ by have := hw.z; omega) (show _ < h.1 by have := hw.z; omega) hw.ph rfl (Nat.le_of_ble_eq_true rfl) (f_many_4 hw) (fun r h1 q => ?_)
  obtain ⟨rfl, e9⟩ := q; have f : fr B h h1 := (by subst e9; exact ⟨rfl, fun _ _ => rfl⟩)
  change mi_WX _ pP X kL_many 8 1 6 7 [(0, .ref B), (1, .int 4), (2, .ref O)] [.int 0, .int 0, .ref O] h1 _
  refine mi_blk okL_many 1 (pc' := 8) (lv' := [(0, .ref B), (1, .int 4), (2, .ref O)]) (st' := [.long ((0 : Int32).toInt64), .int 0, .ref O]) rfl ?_
  refine mo_lst okL_many rfl (show 6 ≤ O by have := hw.z; omega) (by rw [f.1]; exact hO.2) ((f.2 O (Or.inr hO.1)).trans hOc) ?_
  refine mi_blk okL_many 1 (pc' := 15) (lv' := [(0, .ref B), (1, .int 4), (2, .ref O)]) (st' := []) rfl ?_
  refine mi_blk okL_many 1 (pc' := 16) (lv' := [(0, .ref B), (1, .int 4), (2, .ref O)]) (st' := [.int 0]) rfl ?_
  exact mi_ret_i okL_many rfl rfl rfl ⟨rfl, hp.ret f⟩
set_option maxHeartbeats 4000000 in
set_option maxRecDepth 100000 in
theorem e_many_5 {X : mi_X} {h : mi_H} {B : Nat} (hw : ph_W B ph_0 (fun _ _ => 0) (fun _ _ => 0) h) {O : Nat} (hO : B + 518 ≤ O ∧ O < h.1) {g : Nat → Int64} (hOc : h.2 O = oL g) : mi_SH pP X kL_many 8 [.ref B, .int 5, .ref O] h 1 6 (fun r h1 => r = some (.int 0) ∧ hp B h O (oL (va_up g 0 ((0 : Int32).toInt64))) 0 h1) := by
  refine ehL_many (Nat.le_of_ble_eq_true rfl) ?_
  refine mi_blk okL_many 4 (pc' := 4) (lv' := [(0, .ref B), (1, .int 5), (2, .ref O)]) (st' := [.int 5, .ref B, .int 0, .ref O]) rfl ?_
  refine mi_callV okL_many (mc := 1) (ms := 6) (mc' := 0) (ms' := 0) (b := B) (As := [.int 5]) (st := [.int 0, .ref O]) rfl cv_RL_77 rfl (by decide) (show 6 ≤ _ by have := hw.z; omega) (show _ < h.1 by have := hw.z; omega) hw.ph rfl (Nat.le_of_ble_eq_true rfl) (f_many_5 hw) (fun r h1 q => ?_)
  obtain ⟨rfl, e9⟩ := q; have f : fr B h h1 := (by subst e9; exact ⟨rfl, fun _ _ => rfl⟩)
  change mi_WX _ pP X kL_many 8 1 6 7 [(0, .ref B), (1, .int 5), (2, .ref O)] [.int 0, .int 0, .ref O] h1 _
  refine mi_blk okL_many 1 (pc' := 8) (lv' := [(0, .ref B), (1, .int 5), (2, .ref O)]) (st' := [.long ((0 : Int32).toInt64), .int 0, .ref O]) rfl ?_
  refine mo_lst okL_many rfl (show 6 ≤ O by have := hw.z; omega) (by rw [f.1]; exact hO.2) ((f.2 O (Or.inr hO.1)).trans hOc) ?_
  refine mi_blk okL_many 1 (pc' := 15) (lv' := [(0, .ref B), (1, .int 5), (2, .ref O)]) (st' := []) rfl ?_
  refine mi_blk okL_many 1 (pc' := 16) (lv' := [(0, .ref B), (1, .int 5), (2, .ref O)]) (st' := [.int 0]) rfl ?_
  exact mi_ret_i okL_many rfl rfl rfl ⟨rfl, hp.ret f⟩
set_option maxHeartbeats 4000000 in
set_option maxRecDepth 100000 in
theorem e_many_6 {X : mi_X} {h : mi_H} {B : Nat} (hw : ph_W B ph_0 (fun _ _ => 0) (fun _ _ => 0) h) {O : Nat} (hO : B + 518 ≤ O ∧ O < h.1) {g : Nat → Int64} (hOc : h.2 O = oL g) : mi_SH pP X kL_many 8 [.ref B, .int 6, .ref O] h 1 6 (fun r h1 => r = some (.int 0) ∧ hp B h O (oL (va_up g 0 ((0 : Int32).toInt64))) 0 h1) := by
  refine ehL_many (Nat.le_of_ble_eq_true rfl) ?_
  refine mi_blk okL_many 4 (pc' := 4) (lv' := [(0, .ref B), (1, .int 6), (2, .ref O)]) (st' := [.int 6, .ref B, .int 0, .ref O]) rfl ?_
  refine mi_callV okL_many (mc := 1) (ms := 6) (mc' := 0) (ms' := 0) (b := B) (As := [.int 6]) (st := [.int 0, .ref O]) rfl cv_RL_77 rfl (by decide) (show 6 ≤ _ by have := hw.z; omega) (show _ < h.1 by have := hw.z; omega) hw.ph rfl (Nat.le_of_ble_eq_true rfl) (f_many_6 hw) (fun r h1 q => ?_)
  obtain ⟨rfl, e9⟩ := q; have f : fr B h h1 := (by subst e9; exact ⟨rfl, fun _ _ => rfl⟩)
  change mi_WX _ pP X kL_many 8 1 6 7 [(0, .ref B), (1, .int 6), (2, .ref O)] [.int 0, .int 0, .ref O] h1 _
  refine mi_blk okL_many 1 (pc' := 8) (lv' := [(0, .ref B), (1, .int 6), (2, .ref O)]) (st' := [.long ((0 : Int32).toInt64), .int 0, .ref O]) rfl ?_
  refine mo_lst okL_many rfl (show 6 ≤ O by have := hw.z; omega) (by rw [f.1]; exact hO.2) ((f.2 O (Or.inr hO.1)).trans hOc) ?_
  refine mi_blk okL_many 1 (pc' := 15) (lv' := [(0, .ref B), (1, .int 6), (2, .ref O)]) (st' := []) rfl ?_
  refine mi_blk okL_many 1 (pc' := 16) (lv' := [(0, .ref B), (1, .int 6), (2, .ref O)]) (st' := [.int 0]) rfl ?_
  exact mi_ret_i okL_many rfl rfl rfl ⟨rfl, hp.ret f⟩
set_option maxHeartbeats 4000000 in
set_option maxRecDepth 100000 in
theorem e_many_7 {X : mi_X} {h : mi_H} {B : Nat} (hw : ph_W B ph_0 (fun _ _ => 0) (fun _ _ => 0) h) {O : Nat} (hO : B + 518 ≤ O ∧ O < h.1) {g : Nat → Int64} (hOc : h.2 O = oL g) : mi_SH pP X kL_many 8 [.ref B, .int 7, .ref O] h 1 6 (fun r h1 => r = some (.int 0) ∧ hp B h O (oL (va_up g 0 ((0 : Int32).toInt64))) 0 h1) := by
  refine ehL_many (Nat.le_of_ble_eq_true rfl) ?_
  refine mi_blk okL_many 4 (pc' := 4) (lv' := [(0, .ref B), (1, .int 7), (2, .ref O)]) (st' := [.int 7, .ref B, .int 0, .ref O]) rfl ?_
  refine mi_callV okL_many (mc := 1) (ms := 6) (mc' := 0) (ms' := 0) (b := B) (As := [.int 7]) (st := [.int 0, .ref O]) rfl cv_RL_77 rfl (by decide) (show 6 ≤ _ by have := hw.z; omega) (show _ < h.1 by have := hw.z; omega) hw.ph rfl (Nat.le_of_ble_eq_true rfl) (f_many_7 hw) (fun r h1 q => ?_)
  obtain ⟨rfl, e9⟩ := q; have f : fr B h h1 := (by subst e9; exact ⟨rfl, fun _ _ => rfl⟩)
  change mi_WX _ pP X kL_many 8 1 6 7 [(0, .ref B), (1, .int 7), (2, .ref O)] [.int 0, .int 0, .ref O] h1 _
  refine mi_blk okL_many 1 (pc' := 8) (lv' := [(0, .ref B), (1, .int 7), (2, .ref O)]) (st' := [.long ((0 : Int32).toInt64), .int 0, .ref O]) rfl ?_
  refine mo_lst okL_many rfl (show 6 ≤ O by have := hw.z; omega) (by rw [f.1]; exact hO.2) ((f.2 O (Or.inr hO.1)).trans hOc) ?_
  refine mi_blk okL_many 1 (pc' := 15) (lv' := [(0, .ref B), (1, .int 7), (2, .ref O)]) (st' := []) rfl ?_
  refine mi_blk okL_many 1 (pc' := 16) (lv' := [(0, .ref B), (1, .int 7), (2, .ref O)]) (st' := [.int 0]) rfl ?_
  exact mi_ret_i okL_many rfl rfl rfl ⟨rfl, hp.ret f⟩
set_option maxHeartbeats 4000000 in
set_option maxRecDepth 100000 in
theorem e_many_8 {X : mi_X} {h : mi_H} {B : Nat} (hw : ph_W B ph_0 (fun _ _ => 0) (fun _ _ => 0) h) {O : Nat} (hO : B + 518 ≤ O ∧ O < h.1) {g : Nat → Int64} (hOc : h.2 O = oL g) : mi_SH pP X kL_many 8 [.ref B, .int 8, .ref O] h 1 6 (fun r h1 => r = some (.int 0) ∧ hp B h O (oL (va_up g 0 ((0 : Int32).toInt64))) 0 h1) := by
  refine ehL_many (Nat.le_of_ble_eq_true rfl) ?_
  refine mi_blk okL_many 4 (pc' := 4) (lv' := [(0, .ref B), (1, .int 8), (2, .ref O)]) (st' := [.int 8, .ref B, .int 0, .ref O]) rfl ?_
  refine mi_callV okL_many (mc := 1) (ms := 6) (mc' := 0) (ms' := 0) (b := B) (As := [.int 8]) (st := [.int 0, .ref O]) rfl cv_RL_77 rfl (by decide) (show 6 ≤ _ by have := hw.z; omega) (show _ < h.1 by have := hw.z; omega) hw.ph rfl (Nat.le_of_ble_eq_true rfl) (f_many_8 hw) (fun r h1 q => ?_)
  obtain ⟨rfl, e9⟩ := q; have f : fr B h h1 := (by subst e9; exact ⟨rfl, fun _ _ => rfl⟩)
  change mi_WX _ pP X kL_many 8 1 6 7 [(0, .ref B), (1, .int 8), (2, .ref O)] [.int 0, .int 0, .ref O] h1 _
  refine mi_blk okL_many 1 (pc' := 8) (lv' := [(0, .ref B), (1, .int 8), (2, .ref O)]) (st' := [.long ((0 : Int32).toInt64), .int 0, .ref O]) rfl ?_
  refine mo_lst okL_many rfl (show 6 ≤ O by have := hw.z; omega) (by rw [f.1]; exact hO.2) ((f.2 O (Or.inr hO.1)).trans hOc) ?_
  refine mi_blk okL_many 1 (pc' := 15) (lv' := [(0, .ref B), (1, .int 8), (2, .ref O)]) (st' := []) rfl ?_
  refine mi_blk okL_many 1 (pc' := 16) (lv' := [(0, .ref B), (1, .int 8), (2, .ref O)]) (st' := [.int 0]) rfl ?_
  exact mi_ret_i okL_many rfl rfl rfl ⟨rfl, hp.ret f⟩
set_option maxHeartbeats 4000000 in
set_option maxRecDepth 100000 in
theorem e_many_9 {X : mi_X} {h : mi_H} {B : Nat} (hw : ph_W B ph_0 (fun _ _ => 0) (fun _ _ => 0) h) {O : Nat} (hO : B + 518 ≤ O ∧ O < h.1) {g : Nat → Int64} (hOc : h.2 O = oL g) : mi_SH pP X kL_many 8 [.ref B, .int 9, .ref O] h 1 6 (fun r h1 => r = some (.int 0) ∧ hp B h O (oL (va_up g 0 ((0 : Int32).toInt64))) 0 h1) := by
  refine ehL_many (Nat.le_of_ble_eq_true rfl) ?_
  refine mi_blk okL_many 4 (pc' := 4) (lv' := [(0, .ref B), (1, .int 9), (2, .ref O)]) (st' := [.int 9, .ref B, .int 0, .ref O]) rfl ?_
  refine mi_callV okL_many (mc := 1) (ms := 6) (mc' := 0) (ms' := 0) (b := B) (As := [.int 9]) (st := [.int 0, .ref O]) rfl cv_RL_77 rfl (by decide) (show 6 ≤ _ by have := hw.z; omega) (show _ < h.1 by have := hw.z; omega) hw.ph rfl (Nat.le_of_ble_eq_true rfl) (f_many_9 hw) (fun r h1 q => ?_)
  obtain ⟨rfl, e9⟩ := q; have f : fr B h h1 := (by subst e9; exact ⟨rfl, fun _ _ => rfl⟩)
  change mi_WX _ pP X kL_many 8 1 6 7 [(0, .ref B), (1, .int 9), (2, .ref O)] [.int 0, .int 0, .ref O] h1 _
  refine mi_blk okL_many 1 (pc' := 8) (lv' := [(0, .ref B), (1, .int 9), (2, .ref O)]) (st' := [.long ((0 : Int32).toInt64), .int 0, .ref O]) rfl ?_
  refine mo_lst okL_many rfl (show 6 ≤ O by have := hw.z; omega) (by rw [f.1]; exact hO.2) ((f.2 O (Or.inr hO.1)).trans hOc) ?_
  refine mi_blk okL_many 1 (pc' := 15) (lv' := [(0, .ref B), (1, .int 9), (2, .ref O)]) (st' := []) rfl ?_
  refine mi_blk okL_many 1 (pc' := 16) (lv' := [(0, .ref B), (1, .int 9), (2, .ref O)]) (st' := [.int 0]) rfl ?_
  exact mi_ret_i okL_many rfl rfl rfl ⟨rfl, hp.ret f⟩
set_option maxHeartbeats 4000000 in
set_option maxRecDepth 100000 in
theorem e_many_10 {X : mi_X} {h : mi_H} {B : Nat} (hw : ph_W B ph_0 (fun _ _ => 0) (fun _ _ => 0) h) {O : Nat} (hO : B + 518 ≤ O ∧ O < h.1) {g : Nat → Int64} (hOc : h.2 O = oL g) : mi_SH pP X kL_many 8 [.ref B, .int 10, .ref O] h 1 6 (fun r h1 => r = some (.int 0) ∧ hp B h O (oL (va_up g 0 ((0 : Int32).toInt64))) 0 h1) := by
  refine ehL_many (Nat.le_of_ble_eq_true rfl) ?_
  refine mi_blk okL_many 4 (pc' := 4) (lv' := [(0, .ref B), (1, .int 10), (2, .ref O)]) (st' := [.int 10, .ref B, .int 0, .ref O]) rfl ?_
  refine mi_callV okL_many (mc := 1) (ms := 6) (mc' := 0) (ms' := 0) (b := B) (As := [.int 10]) (st := [.int 0, .ref O]) rfl cv_RL_77 rfl (by decide) (show 6 ≤ _ by have := hw.z; omega) (show _ < h.1 by have := hw.z; omega) hw.ph rfl (Nat.le_of_ble_eq_true rfl) (f_many_10 hw) (fun r h1 q => ?_)
  obtain ⟨rfl, e9⟩ := q; have f : fr B h h1 := (by subst e9; exact ⟨rfl, fun _ _ => rfl⟩)
  change mi_WX _ pP X kL_many 8 1 6 7 [(0, .ref B), (1, .int 10), (2, .ref O)] [.int 0, .int 0, .ref O] h1 _
  refine mi_blk okL_many 1 (pc' := 8) (lv' := [(0, .ref B), (1, .int 10), (2, .ref O)]) (st' := [.long ((0 : Int32).toInt64), .int 0, .ref O]) rfl ?_
  refine mo_lst okL_many rfl (show 6 ≤ O by have := hw.z; omega) (by rw [f.1]; exact hO.2) ((f.2 O (Or.inr hO.1)).trans hOc) ?_
  refine mi_blk okL_many 1 (pc' := 15) (lv' := [(0, .ref B), (1, .int 10), (2, .ref O)]) (st' := []) rfl ?_
  refine mi_blk okL_many 1 (pc' := 16) (lv' := [(0, .ref B), (1, .int 10), (2, .ref O)]) (st' := [.int 0]) rfl ?_
  exact mi_ret_i okL_many rfl rfl rfl ⟨rfl, hp.ret f⟩
set_option maxHeartbeats 4000000 in
set_option maxRecDepth 100000 in
theorem e_many_11 {X : mi_X} {h : mi_H} {B : Nat} (hw : ph_W B ph_0 (fun _ _ => 0) (fun _ _ => 0) h) {O : Nat} (hO : B + 518 ≤ O ∧ O < h.1) {g : Nat → Int64} (hOc : h.2 O = oL g) : mi_SH pP X kL_many 8 [.ref B, .int 11, .ref O] h 1 6 (fun r h1 => r = some (.int 0) ∧ hp B h O (oL (va_up g 0 ((0 : Int32).toInt64))) 0 h1) := by
  refine ehL_many (Nat.le_of_ble_eq_true rfl) ?_
  refine mi_blk okL_many 4 (pc' := 4) (lv' := [(0, .ref B), (1, .int 11), (2, .ref O)]) (st' := [.int 11, .ref B, .int 0, .ref O]) rfl ?_
  refine mi_callV okL_many (mc := 1) (ms := 6) (mc' := 0) (ms' := 0) (b := B) (As := [.int 11]) (st := [.int 0, .ref O]) rfl cv_RL_77 rfl (by decide) (show 6 ≤ _ by have := hw.z; omega) (show _ < h.1 by have := hw.z; omega) hw.ph rfl (Nat.le_of_ble_eq_true rfl) (f_many_11 hw) (fun r h1 q => ?_)
  obtain ⟨rfl, e9⟩ := q; have f : fr B h h1 := (by subst e9; exact ⟨rfl, fun _ _ => rfl⟩)
  change mi_WX _ pP X kL_many 8 1 6 7 [(0, .ref B), (1, .int 11), (2, .ref O)] [.int 0, .int 0, .ref O] h1 _
  refine mi_blk okL_many 1 (pc' := 8) (lv' := [(0, .ref B), (1, .int 11), (2, .ref O)]) (st' := [.long ((0 : Int32).toInt64), .int 0, .ref O]) rfl ?_
  refine mo_lst okL_many rfl (show 6 ≤ O by have := hw.z; omega) (by rw [f.1]; exact hO.2) ((f.2 O (Or.inr hO.1)).trans hOc) ?_
  refine mi_blk okL_many 1 (pc' := 15) (lv' := [(0, .ref B), (1, .int 11), (2, .ref O)]) (st' := []) rfl ?_
  refine mi_blk okL_many 1 (pc' := 16) (lv' := [(0, .ref B), (1, .int 11), (2, .ref O)]) (st' := [.int 0]) rfl ?_
  exact mi_ret_i okL_many rfl rfl rfl ⟨rfl, hp.ret f⟩
set_option maxHeartbeats 4000000 in
set_option maxRecDepth 100000 in
theorem e_many_12 {X : mi_X} {h : mi_H} {B : Nat} (hw : ph_W B ph_0 (fun _ _ => 0) (fun _ _ => 0) h) {O : Nat} (hO : B + 518 ≤ O ∧ O < h.1) {g : Nat → Int64} (hOc : h.2 O = oL g) : mi_SH pP X kL_many 8 [.ref B, .int 12, .ref O] h 1 6 (fun r h1 => r = some (.int 0) ∧ hp B h O (oL (va_up g 0 ((0 : Int32).toInt64))) 0 h1) := by
  refine ehL_many (Nat.le_of_ble_eq_true rfl) ?_
  refine mi_blk okL_many 4 (pc' := 4) (lv' := [(0, .ref B), (1, .int 12), (2, .ref O)]) (st' := [.int 12, .ref B, .int 0, .ref O]) rfl ?_
  refine mi_callV okL_many (mc := 1) (ms := 6) (mc' := 0) (ms' := 0) (b := B) (As := [.int 12]) (st := [.int 0, .ref O]) rfl cv_RL_77 rfl (by decide) (show 6 ≤ _ by have := hw.z; omega) (show _ < h.1 by have := hw.z; omega) hw.ph rfl (Nat.le_of_ble_eq_true rfl) (f_many_12 hw) (fun r h1 q => ?_)
  obtain ⟨rfl, e9⟩ := q; have f : fr B h h1 := (by subst e9; exact ⟨rfl, fun _ _ => rfl⟩)
  change mi_WX _ pP X kL_many 8 1 6 7 [(0, .ref B), (1, .int 12), (2, .ref O)] [.int 0, .int 0, .ref O] h1 _
  refine mi_blk okL_many 1 (pc' := 8) (lv' := [(0, .ref B), (1, .int 12), (2, .ref O)]) (st' := [.long ((0 : Int32).toInt64), .int 0, .ref O]) rfl ?_
  refine mo_lst okL_many rfl (show 6 ≤ O by have := hw.z; omega) (by rw [f.1]; exact hO.2) ((f.2 O (Or.inr hO.1)).trans hOc) ?_
  refine mi_blk okL_many 1 (pc' := 15) (lv' := [(0, .ref B), (1, .int 12), (2, .ref O)]) (st' := []) rfl ?_
  refine mi_blk okL_many 1 (pc' := 16) (lv' := [(0, .ref B), (1, .int 12), (2, .ref O)]) (st' := [.int 0]) rfl ?_
  exact mi_ret_i okL_many rfl rfl rfl ⟨rfl, hp.ret f⟩
set_option maxHeartbeats 4000000 in
set_option maxRecDepth 100000 in
theorem e_wouldTake_n {X : mi_X} {h : mi_H} {B : Nat} (hw : ph_W B ph_0 (fun _ _ => 0) (fun _ _ => 0) h) {O : Nat} (hO : B + 518 ≤ O ∧ O < h.1) {g : Nat → UInt64} (hOc : h.2 O = oD g) {k : Nat} (hk : k < 240) {y : Int32} (hy : y < 1 ∨ (40 : Int32) < y) : mi_SH pP X kL_wouldTake 8 [.ref B, .int (nI k), .int y, .ref O] h 1 6 (fun r h1 => r = some (.int 2) ∧ hp B h O (oD g) 2 h1) := by
  refine ehL_wouldTake (Nat.le_of_ble_eq_true rfl) ?_
  refine mi_blk okL_wouldTake 5 (pc' := 5) (lv' := [(0, .ref B), (1, .int (nI k)), (2, .int y), (3, .ref O)]) (st' := [.int y, .int (nI k), .ref B, .int 0, .ref O]) rfl ?_
  refine mi_callVX okL_wouldTake (mc := 0) (ms := 0) (mc' := 1) (ms' := 6) (b := B) (As := [.int (nI k), .int y]) (st := [.int 0, .ref O]) rfl cv_RL_80 rfl (by decide) (show 6 ≤ _ by have := hw.z; omega) (show _ < h.1 by have := hw.z; omega) hw.ph rfl (Nat.le_of_ble_eq_true rfl) (x_wouldTake_n hw hk hy) (fun r h1 q => q.elim) (fun ce a h1 c1 q => ?_)
  obtain ⟨e8, e9⟩ := q; subst e8; subst e9
  refine mi_TX.take (E := "java/lang/IllegalArgumentException") (nm := "java/lang/IllegalArgumentException") c1 rfl (tableOf [(0, 9, 12, 25)]) _ _ rfl (ps_c (by decide) cl_RL_25 (fun _ _ _ h => h.2.2.1) ps_0) rfl (by decide) cl_RL_19 ca_IllegalArgumentException ?_
  change mi_WX _ pP X kL_wouldTake 8 0 0 16 [(0, .ref B), (1, .int (nI k)), (2, .int y), (3, .ref O)] [.ref a] (mi_psh h (.inr (11, []))) _
  refine mi_blk okL_wouldTake 1 (pc' := 18) (lv' := [(4, .ref a), (0, .ref B), (1, .int (nI k)), (2, .int y), (3, .ref O)]) (st' := []) rfl ?_
  refine mi_blk okL_wouldTake 1 (pc' := 19) (lv' := [(4, .ref a), (0, .ref B), (1, .int (nI k)), (2, .int y), (3, .ref O)]) (st' := [.int 2]) rfl ?_
  exact mi_ret_i okL_wouldTake rfl rfl rfl ⟨rfl, hp.thr (by decide)⟩
set_option maxHeartbeats 4000000 in
set_option maxRecDepth 100000 in
theorem e_wouldMend_t {X : mi_X} {h : mi_H} {B : Nat} (hw : ph_W B ph_0 (fun _ _ => 0) (fun _ _ => 0) h) {O : Nat} (hO : B + 518 ≤ O ∧ O < h.1) {g : Nat → Int64} (hOc : h.2 O = oL g) {k : Nat} (hk : k < 240) {y : Int32} (hy : y < 0 ∨ (65535 : Int32) < y) : mi_SH pP X kL_wouldMend 8 [.ref B, .int (nI k), .int y, .ref O] h 1 6 (fun r h1 => r = some (.int 2) ∧ hp B h O (oL g) 2 h1) := by
  refine ehL_wouldMend (Nat.le_of_ble_eq_true rfl) ?_
  refine mi_blk okL_wouldMend 5 (pc' := 5) (lv' := [(0, .ref B), (1, .int (nI k)), (2, .int y), (3, .ref O)]) (st' := [.int y, .int (nI k), .ref B, .int 0, .ref O]) rfl ?_
  refine mi_callVX okL_wouldMend (mc := 0) (ms := 0) (mc' := 1) (ms' := 6) (b := B) (As := [.int (nI k), .int y]) (st := [.int 0, .ref O]) rfl cv_RL_84 rfl (by decide) (show 6 ≤ _ by have := hw.z; omega) (show _ < h.1 by have := hw.z; omega) hw.ph rfl (Nat.le_of_ble_eq_true rfl) (x_wouldMend_t hw hk hy) (fun r h1 q => q.elim) (fun ce a h1 c1 q => ?_)
  obtain ⟨e8, e9⟩ := q; subst e8; subst e9
  refine mi_TX.take (E := "java/lang/IllegalArgumentException") (nm := "java/lang/IllegalArgumentException") c1 rfl (tableOf [(0, 10, 13, 25)]) _ _ rfl (ps_c (by decide) cl_RL_25 (fun _ _ _ h => h.2.2.1) ps_0) rfl (by decide) cl_RL_19 ca_IllegalArgumentException ?_
  change mi_WX _ pP X kL_wouldMend 8 0 0 17 [(0, .ref B), (1, .int (nI k)), (2, .int y), (3, .ref O)] [.ref a] (mi_psh h (.inr (11, []))) _
  refine mi_blk okL_wouldMend 1 (pc' := 19) (lv' := [(4, .ref a), (0, .ref B), (1, .int (nI k)), (2, .int y), (3, .ref O)]) (st' := []) rfl ?_
  refine mi_blk okL_wouldMend 1 (pc' := 20) (lv' := [(4, .ref a), (0, .ref B), (1, .int (nI k)), (2, .int y), (3, .ref O)]) (st' := [.int 2]) rfl ?_
  exact mi_ret_i okL_wouldMend rfl rfl rfl ⟨rfl, hp.thr (by decide)⟩
