set_option maxHeartbeats 4000000 in
set_option maxRecDepth 100000 in
theorem w_full1 {X : mi_X} {B : Nat} {q : ph_T} {to : Nat → Int64} {rot : Int32} {h : mi_H} {lf : Int32} {k : Nat} (hL : LH B q to h) (hI : LI k q to rot) {t : Nat} (ht : t < 3) {x : Int32} {mo : Int32} {f g u l : Nat} (e : q.2.2.2.1 t = (0, mo, nI f, nI g, nI u, nI l, 1)) (hmo : mo = 0 ∨ mo = 1) (h3 : f + g ≤ 240) (h4 : l ≤ u) (h5 : u ≤ g) {Q : Option Value → mi_H → Prop} (kk : ∀ full : Int32, full = 1 → mi_W pP X kL_law 7 0 0 153 [(10, .int full), (9, .int (nI t)), (8, .int x), (7, .int (nI k)), (6, .int lf), (4, .double q.2.2.2.2.1.2.1), (3, .int rot), (2, .ref (B + 518)), (1, .ref B), (0, .ref 0)] [] h Q) : mi_W pP X kL_law 7 0 0 109 [(9, .int (nI t)), (8, .int x), (7, .int (nI k)), (6, .int lf), (4, .double q.2.2.2.2.1.2.1), (3, .int rot), (2, .ref (B + 518)), (1, .ref B), (0, .ref 0)] [] h Q := by
  have hw := hL.1
  refine mi_blk okL_law_1 3 (pc' := 114) (lv' := [(9, .int (nI t)), (8, .int x), (7, .int (nI k)), (6, .int lf), (4, .double q.2.2.2.2.1.2.1), (3, .int rot), (2, .ref (B + 518)), (1, .ref B), (0, .ref 0)]) (st' := [.int 6, .int (nI t), .ref B]) rfl ?_
  refine mi_callV okL_law_1 (mc := 0) (ms := 0) (mc' := 0) (ms' := 0) (b := B) (As := [.int (nI t), .int 6]) (st := []) rfl cv_RL_31 rfl (by decide) (show 6 ≤ _ by have := hw.z; omega) (show _ < h.1 by have := hw.z; omega) hw.ph rfl (Nat.le_of_ble_eq_true rfl) (show mi_S pP X kX8_ofTrack 3 [.ref B, .int (nI t), .int 6] h 0 0 (fun r h1 => r = some (.int (1)) ∧ h1 = h) by have z := c_ofTrack_6 (X := X) hw (show t < 8 by omega) (hI.lt ht); rw [e] at z; dsimp only at z; rw [if_neg (by decide)] at z; exact z) (fun r h1 q9 => ?_)
  obtain ⟨rfl, e9⟩ := q9; have e9 := e9.symm; subst e9
  change mi_W pP X kL_law 7 0 0 117 [(9, .int (nI t)), (8, .int x), (7, .int (nI k)), (6, .int lf), (4, .double q.2.2.2.2.1.2.1), (3, .int rot), (2, .ref (B + 518)), (1, .ref B), (0, .ref 0)] [.int (1)] h _
  refine mi_blk okL_law_1 1 (pc' := 118) (lv' := [(9, .int (nI t)), (8, .int x), (7, .int (nI k)), (6, .int lf), (4, .double q.2.2.2.2.1.2.1), (3, .int rot), (2, .ref (B + 518)), (1, .ref B), (0, .ref 0)]) (st' := [.int 1, .int (1)]) rfl ?_
  refine mi_ic_eq okL_law_1 rfl rfl (fun c_118 => ?_) (fun c_118 => absurd (by decide) c_118)
  refine mi_blk okL_law_2 3 (pc' := 153) (lv' := [(10, .int 1), (9, .int (nI t)), (8, .int x), (7, .int (nI k)), (6, .int lf), (4, .double q.2.2.2.2.1.2.1), (3, .int rot), (2, .ref (B + 518)), (1, .ref B), (0, .ref 0)]) (st' := []) rfl ?_
  exact kk _ rfl
set_option maxHeartbeats 4000000 in
set_option maxRecDepth 100000 in
theorem w_full0 {X : mi_X} {B : Nat} {q : ph_T} {to : Nat → Int64} {rot : Int32} {h : mi_H} {lf : Int32} {k : Nat} (hL : LH B q to h) (hI : LI k q to rot) {t : Nat} (ht : t < 3) {x : Int32} {mo : Int32} {f g u l : Nat} (e : q.2.2.2.1 t = (0, mo, nI f, nI g, nI u, nI l, 0)) (hmo : mo = 0 ∨ mo = 1) (h3 : f + g ≤ 240) (h4 : l ≤ u) (h5 : u ≤ g) {Q : Option Value → mi_H → Prop} (kk : ∀ full : Int32, (full = 1 ∨ full = 0 ∧ u < g) → mi_W pP X kL_law 7 0 0 153 [(10, .int full), (9, .int (nI t)), (8, .int x), (7, .int (nI k)), (6, .int lf), (4, .double q.2.2.2.2.1.2.1), (3, .int rot), (2, .ref (B + 518)), (1, .ref B), (0, .ref 0)] [] h Q) : mi_W pP X kL_law 7 0 0 109 [(9, .int (nI t)), (8, .int x), (7, .int (nI k)), (6, .int lf), (4, .double q.2.2.2.2.1.2.1), (3, .int rot), (2, .ref (B + 518)), (1, .ref B), (0, .ref 0)] [] h Q := by
  have hw := hL.1
  refine mi_blk okL_law_1 3 (pc' := 114) (lv' := [(9, .int (nI t)), (8, .int x), (7, .int (nI k)), (6, .int lf), (4, .double q.2.2.2.2.1.2.1), (3, .int rot), (2, .ref (B + 518)), (1, .ref B), (0, .ref 0)]) (st' := [.int 6, .int (nI t), .ref B]) rfl ?_
  refine mi_callV okL_law_1 (mc := 0) (ms := 0) (mc' := 0) (ms' := 0) (b := B) (As := [.int (nI t), .int 6]) (st := []) rfl cv_RL_31 rfl (by decide) (show 6 ≤ _ by have := hw.z; omega) (show _ < h.1 by have := hw.z; omega) hw.ph rfl (Nat.le_of_ble_eq_true rfl) (show mi_S pP X kX8_ofTrack 3 [.ref B, .int (nI t), .int 6] h 0 0 (fun r h1 => r = some (.int (0)) ∧ h1 = h) by have z := c_ofTrack_6 (X := X) hw (show t < 8 by omega) (hI.lt ht); rw [e] at z; dsimp only at z; rw [if_pos rfl] at z; exact z) (fun r h1 q9 => ?_)
  obtain ⟨rfl, e9⟩ := q9; have e9 := e9.symm; subst e9
  change mi_W pP X kL_law 7 0 0 117 [(9, .int (nI t)), (8, .int x), (7, .int (nI k)), (6, .int lf), (4, .double q.2.2.2.2.1.2.1), (3, .int rot), (2, .ref (B + 518)), (1, .ref B), (0, .ref 0)] [.int (0)] h _
  refine mi_blk okL_law_1 1 (pc' := 118) (lv' := [(9, .int (nI t)), (8, .int x), (7, .int (nI k)), (6, .int lf), (4, .double q.2.2.2.2.1.2.1), (3, .int rot), (2, .ref (B + 518)), (1, .ref B), (0, .ref 0)]) (st' := [.int 1, .int (0)]) rfl ?_
  refine mi_ic_eq okL_law_1 rfl rfl (fun c_118 => absurd c_118 (by decide)) (fun c_118 => ?_)
  refine mi_blk okL_law_1 3 (pc' := 125) (lv' := [(9, .int (nI t)), (8, .int x), (7, .int (nI k)), (6, .int lf), (4, .double q.2.2.2.2.1.2.1), (3, .int rot), (2, .ref (B + 518)), (1, .ref B), (0, .ref 0)]) (st' := [.int 4, .int (nI t), .ref B]) rfl ?_
  refine mi_callV okL_law_1 (mc := 0) (ms := 0) (mc' := 0) (ms' := 0) (b := B) (As := [.int (nI t), .int 4]) (st := []) rfl cv_RL_31 rfl (by decide) (show 6 ≤ _ by have := hw.z; omega) (show _ < h.1 by have := hw.z; omega) hw.ph rfl (Nat.le_of_ble_eq_true rfl) (show mi_S pP X kX8_ofTrack 3 [.ref B, .int (nI t), .int 4] h 0 0 (fun r h1 => r = some (.int (nI u - nI l)) ∧ h1 = h) by have z := c_ofTrack_4 (X := X) hw (show t < 8 by omega) (hI.lt ht); rw [e] at z; dsimp only at z; exact z) (fun r h1 q9 => ?_)
  obtain ⟨rfl, e9⟩ := q9; have e9 := e9.symm; subst e9
  change mi_W pP X kL_law 7 0 0 128 [(9, .int (nI t)), (8, .int x), (7, .int (nI k)), (6, .int lf), (4, .double q.2.2.2.2.1.2.1), (3, .int rot), (2, .ref (B + 518)), (1, .ref B), (0, .ref 0)] [.int (nI u - nI l)] h _
  refine mi_blk okL_law_1 3 (pc' := 132) (lv' := [(9, .int (nI t)), (8, .int x), (7, .int (nI k)), (6, .int lf), (4, .double q.2.2.2.2.1.2.1), (3, .int rot), (2, .ref (B + 518)), (1, .ref B), (0, .ref 0)]) (st' := [.int 5, .int (nI t), .ref B, .int (nI u - nI l)]) rfl ?_
  refine mi_callV okL_law_1 (mc := 0) (ms := 0) (mc' := 0) (ms' := 0) (b := B) (As := [.int (nI t), .int 5]) (st := [.int (nI u - nI l)]) rfl cv_RL_31 rfl (by decide) (show 6 ≤ _ by have := hw.z; omega) (show _ < h.1 by have := hw.z; omega) hw.ph rfl (Nat.le_of_ble_eq_true rfl) (show mi_S pP X kX8_ofTrack 3 [.ref B, .int (nI t), .int 5] h 0 0 (fun r h1 => r = some (.int (nI l)) ∧ h1 = h) by have z := c_ofTrack_5 (X := X) hw (show t < 8 by omega) (hI.lt ht); rw [e] at z; dsimp only at z; exact z) (fun r h1 q9 => ?_)
  obtain ⟨rfl, e9⟩ := q9; have e9 := e9.symm; subst e9
  change mi_W pP X kL_law 7 0 0 135 [(9, .int (nI t)), (8, .int x), (7, .int (nI k)), (6, .int lf), (4, .double q.2.2.2.2.1.2.1), (3, .int rot), (2, .ref (B + 518)), (1, .ref B), (0, .ref 0)] [.int (nI l), .int (nI u - nI l)] h _
  refine mi_blk okL_law_1 4 (pc' := 140) (lv' := [(9, .int (nI t)), (8, .int x), (7, .int (nI k)), (6, .int lf), (4, .double q.2.2.2.2.1.2.1), (3, .int rot), (2, .ref (B + 518)), (1, .ref B), (0, .ref 0)]) (st' := [.int 3, .int (nI t), .ref B, .int ((nI u - nI l) + (nI l))]) rfl ?_
  refine mi_callV okL_law_1 (mc := 0) (ms := 0) (mc' := 0) (ms' := 0) (b := B) (As := [.int (nI t), .int 3]) (st := [.int ((nI u - nI l) + (nI l))]) rfl cv_RL_31 rfl (by decide) (show 6 ≤ _ by have := hw.z; omega) (show _ < h.1 by have := hw.z; omega) hw.ph rfl (Nat.le_of_ble_eq_true rfl) (show mi_S pP X kX8_ofTrack 3 [.ref B, .int (nI t), .int 3] h 0 0 (fun r h1 => r = some (.int (nI g)) ∧ h1 = h) by have z := c_ofTrack_3 (X := X) hw (show t < 8 by omega) (hI.lt ht); rw [e] at z; dsimp only at z; exact z) (fun r h1 q9 => ?_)
  obtain ⟨rfl, e9⟩ := q9; have e9 := e9.symm; subst e9
  change mi_W pP X kL_law 7 0 0 143 [(9, .int (nI t)), (8, .int x), (7, .int (nI k)), (6, .int lf), (4, .double q.2.2.2.2.1.2.1), (3, .int rot), (2, .ref (B + 518)), (1, .ref B), (0, .ref 0)] [.int (nI g), .int ((nI u - nI l) + (nI l))] h _
  refine mi_ic_ne okL_law_2 rfl rfl (fun c_143 => ?_) (fun c_143 => ?_)
  · refine mi_blk okL_law_2 2 (pc' := 153) (lv' := [(10, .int 0), (9, .int (nI t)), (8, .int x), (7, .int (nI k)), (6, .int lf), (4, .double q.2.2.2.2.1.2.1), (3, .int rot), (2, .ref (B + 518)), (1, .ref B), (0, .ref 0)]) (st' := []) rfl ?_
    exact kk _ (Or.inr ⟨rfl, Nat.lt_of_le_of_ne h5 fun z => c_143 (by rw [z]; exact Int32.sub_add_cancel _ _)⟩)
  · refine mi_blk okL_law_2 3 (pc' := 153) (lv' := [(10, .int 1), (9, .int (nI t)), (8, .int x), (7, .int (nI k)), (6, .int lf), (4, .double q.2.2.2.2.1.2.1), (3, .int rot), (2, .ref (B + 518)), (1, .ref B), (0, .ref 0)]) (st' := []) rfl ?_
    exact kk _ (Or.inl rfl)
set_option maxHeartbeats 4000000 in
set_option maxRecDepth 100000 in
theorem w_tail {X : mi_X} {B : Nat} {q : ph_T} {to : Nat → Int64} {rot : Int32} {h : mi_H} {lf ca : Int32} {k j : Nat} {x0 : UInt64} (hL : LH B q to h) (hI : LI (k + 1) q to rot) (hck : ck x0 j) (hz : zv x0 ≤ zv q.2.2.2.2.1.2.1) (hc : q.1.2.2.2.1 ≤ ca) (hlf : ca ≤ lf) {Q : Option Value → mi_H → Prop} (kk : mi_W pP X kL_law 7 0 0 75 [(7, .int (nI (k + 1))), (6, .int q.1.2.2.2.1), (4, .double q.2.2.2.2.1.2.1), (3, .int rot), (2, .ref (B + 518)), (1, .ref B), (0, .ref 0)] [] h Q) : mi_W pP X kL_law 7 0 0 377 [(7, .int (nI k)), (6, .int lf), (4, .double x0), (3, .int rot), (2, .ref (B + 518)), (1, .ref B), (0, .ref 0)] [] h Q := by
  have hw := hL.1
  refine mi_blk okL_law_4 1 (pc' := 378) (lv' := [(7, .int (nI k)), (6, .int lf), (4, .double x0), (3, .int rot), (2, .ref (B + 518)), (1, .ref B), (0, .ref 0)]) (st' := [.ref B]) rfl ?_
  refine mi_callV okL_law_4 (mc := 0) (ms := 0) (mc' := 0) (ms' := 0) (b := B) (As := []) (st := []) rfl cv_RL_62 rfl (by decide) (show 6 ≤ _ by have := hw.z; omega) (show _ < h.1 by have := hw.z; omega) hw.ph rfl (Nat.le_of_ble_eq_true rfl) (c_clock hw) (fun r h1 q9 => ?_)
  obtain ⟨rfl, e9⟩ := q9; have e9 := e9.symm; subst e9
  change mi_W pP X kL_law 7 0 0 381 [(7, .int (nI k)), (6, .int lf), (4, .double x0), (3, .int rot), (2, .ref (B + 518)), (1, .ref B), (0, .ref 0)] [.double q.2.2.2.2.1.2.1] h _
  refine mi_blk okL_law_4 2 (pc' := 384) (lv' := [(7, .int (nI k)), (6, .int lf), (4, .double x0), (3, .int rot), (2, .ref (B + 518)), (1, .ref B), (0, .ref 0)]) (st' := [.int (Op.cmpValue (FP.dcmp q.2.2.2.2.1.2.1 x0) .g)]) rfl ?_
  refine mi_if_lt okL_law_4 rfl rfl (fun c_384 => absurd c_384 (ck_cmp hck hI.2.2.2.1.2.2 hz)) (fun c_384 => ?_)
  refine mi_blk okL_law_4 2 (pc' := 389) (lv' := [(7, .int (nI k)), (6, .int lf), (4, .double x0), (3, .int rot), (2, .ref (B + 518)), (1, .ref B), (0, .ref 0)]) (st' := [.int 3, .ref B]) rfl ?_
  refine mi_callV okL_law_4 (mc := 0) (ms := 0) (mc' := 0) (ms' := 0) (b := B) (As := [.int 3]) (st := []) rfl cv_RL_34 rfl (by decide) (show 6 ≤ _ by have := hw.z; omega) (show _ < h.1 by have := hw.z; omega) hw.ph rfl (Nat.le_of_ble_eq_true rfl) (c_many_3 hw) (fun r h1 q9 => ?_)
  obtain ⟨rfl, e9⟩ := q9; have e9 := e9.symm; subst e9
  change mi_W pP X kL_law 7 0 0 392 [(7, .int (nI k)), (6, .int lf), (4, .double x0), (3, .int rot), (2, .ref (B + 518)), (1, .ref B), (0, .ref 0)] [.int q.1.2.2.2.1] h _
  refine mi_blk okL_law_4 1 (pc' := 394) (lv' := [(7, .int (nI k)), (6, .int lf), (4, .double x0), (3, .int rot), (2, .ref (B + 518)), (1, .ref B), (0, .ref 0)]) (st' := [.int lf, .int q.1.2.2.2.1]) rfl ?_
  refine mi_ic_le okL_law_4 rfl rfl (fun c_394 => ?_) (fun c_394 => absurd (Int32.le_trans hc hlf) c_394)
  refine mi_blk okL_law_4 1 (pc' := 400) (lv' := [(7, .int (nI k)), (6, .int lf), (4, .double x0), (3, .int rot), (2, .ref (B + 518)), (1, .ref B), (0, .ref 0)]) (st' := [.ref B]) rfl ?_
  refine mi_callV okL_law_4 (mc := 0) (ms := 0) (mc' := 0) (ms' := 0) (b := B) (As := []) (st := []) rfl cv_RL_62 rfl (by decide) (show 6 ≤ _ by have := hw.z; omega) (show _ < h.1 by have := hw.z; omega) hw.ph rfl (Nat.le_of_ble_eq_true rfl) (c_clock hw) (fun r h1 q9 => ?_)
  obtain ⟨rfl, e9⟩ := q9; have e9 := e9.symm; subst e9
  change mi_W pP X kL_law 7 0 0 403 [(7, .int (nI k)), (6, .int lf), (4, .double x0), (3, .int rot), (2, .ref (B + 518)), (1, .ref B), (0, .ref 0)] [.double q.2.2.2.2.1.2.1] h _
  refine mi_blk okL_law_4 3 (pc' := 407) (lv' := [(4, .double q.2.2.2.2.1.2.1), (7, .int (nI k)), (6, .int lf), (3, .int rot), (2, .ref (B + 518)), (1, .ref B), (0, .ref 0)]) (st' := [.int 3, .ref B]) rfl ?_
  refine mi_callV okL_law_4 (mc := 0) (ms := 0) (mc' := 0) (ms' := 0) (b := B) (As := [.int 3]) (st := []) rfl cv_RL_34 rfl (by decide) (show 6 ≤ _ by have := hw.z; omega) (show _ < h.1 by have := hw.z; omega) hw.ph rfl (Nat.le_of_ble_eq_true rfl) (c_many_3 hw) (fun r h1 q9 => ?_)
  obtain ⟨rfl, e9⟩ := q9; have e9 := e9.symm; subst e9
  change mi_W pP X kL_law 7 0 0 410 [(4, .double q.2.2.2.2.1.2.1), (7, .int (nI k)), (6, .int lf), (3, .int rot), (2, .ref (B + 518)), (1, .ref B), (0, .ref 0)] [.int q.1.2.2.2.1] h _
  refine mi_blk okL_law_4 3 (pc' := 75) (lv' := [(7, .int ((nI k) + 1)), (6, .int q.1.2.2.2.1), (4, .double q.2.2.2.2.1.2.1), (3, .int rot), (2, .ref (B + 518)), (1, .ref B), (0, .ref 0)]) (st' := []) rfl ?_
  rw [← nI_succ]
  exact kk
set_option maxHeartbeats 4000000 in
set_option maxRecDepth 100000 in
theorem w_step {X : mi_X} (hX0 : (X 0).1 < 100000) (hX1 : mi_X1 X) (hX4 : mi_X4 X) (hX : mi_X23 X) {B : Nat} {q : ph_T} {to : Nat → Int64} {rot : Int32} {h : mi_H} {lf : Int32} {k : Nat} (hk : k < 80) (hL : LH B q to h) (hI : LI k q to rot) (hlf : q.1.2.2.2.1 ≤ lf) {Q : Option Value → mi_H → Prop} (kk : ∀ (q' : ph_T) (to' : Nat → Int64) (rot' : Int32) (h' : mi_H), LH B q' to' h' → LI (k + 1) q' to' rot' → mi_W pP X kL_law 7 0 0 75 [(7, .int (nI (k + 1))), (6, .int q'.1.2.2.2.1), (4, .double q'.2.2.2.2.1.2.1), (3, .int rot'), (2, .ref (B + 518)), (1, .ref B), (0, .ref 0)] [] h' Q) : mi_W pP X kL_law 7 0 0 75 [(7, .int (nI k)), (6, .int lf), (4, .double q.2.2.2.2.1.2.1), (3, .int rot), (2, .ref (B + 518)), (1, .ref B), (0, .ref 0)] [] h Q := by
  have hw := hL.1
  refine mi_blk okL_law_1 2 (pc' := 79) (lv' := [(7, .int (nI k)), (6, .int lf), (4, .double q.2.2.2.2.1.2.1), (3, .int rot), (2, .ref (B + 518)), (1, .ref B), (0, .ref 0)]) (st' := [.int 80, .int (nI k)]) rfl ?_
  refine mi_ic_ge okL_law_1 rfl rfl (fun c_79 => absurd c_79 (nI_ge (a := k) (b := 80) hk (by decide))) (fun c_79 => ?_)
  refine mi_blk okL_law_1 3 (pc' := 87) (lv' := [(7, .int (nI k)), (6, .int lf), (4, .double q.2.2.2.2.1.2.1), (3, .int rot), (2, .ref (B + 518)), (1, .ref B), (0, .ref 0)]) (st' := [.int 16, .int (nI k), .ref 0]) rfl ?_
  refine mi_irem okL_law_1 rfl (by decide) ?_
  rw [show nI k - nI k / 16 * 16 = nI (k % 16) from pk_rem (a := k) (d := 16) (by omega) (by decide) (by decide)]
  refine mi_callS okL_law_1 (mc := 0) (ms := 0) (mc' := 0) (ms' := 0) (As := [.ref 0, .int (nI (k % 16))]) (st := []) rfl cs_RL_9 rfl (by decide) (Nat.le_of_ble_eq_true rfl) (c_cell hX0 (i := k % 16) (by omega)) (fun r h1 q9 => ?_)
  obtain ⟨v, rfl, e9⟩ := q9; have e9 := e9.symm; subst e9
  change mi_W pP X kL_law 7 0 0 91 [(7, .int (nI k)), (6, .int lf), (4, .double q.2.2.2.2.1.2.1), (3, .int rot), (2, .ref (B + 518)), (1, .ref B), (0, .ref 0)] [.int v] h _
  refine mi_blk okL_law_1 5 (pc' := 99) (lv' := [(8, .int (v + (61 * (nI k)))), (7, .int (nI k)), (6, .int lf), (4, .double q.2.2.2.2.1.2.1), (3, .int rot), (2, .ref (B + 518)), (1, .ref B), (0, .ref 0)]) (st' := []) rfl ?_
  generalize v + 61 * nI k = x
  refine mi_blk okL_law_1 1 (pc' := 101) (lv' := [(8, .int x), (7, .int (nI k)), (6, .int lf), (4, .double q.2.2.2.2.1.2.1), (3, .int rot), (2, .ref (B + 518)), (1, .ref B), (0, .ref 0)]) (st' := [.int x]) rfl ?_
  refine mi_blk okL_law_1 3 (pc' := 104) (lv' := [(8, .int x), (7, .int (nI k)), (6, .int lf), (4, .double q.2.2.2.2.1.2.1), (3, .int rot), (2, .ref (B + 518)), (1, .ref B), (0, .ref 0)]) (st' := [.int 3, .int (x >>> (3 &&& 31))]) rfl ?_
  refine mi_callS okL_law_1 (mc := 0) (ms := 0) (mc' := 0) (ms' := 0) (As := [.int (x >>> (3 &&& 31)), .int 3]) (st := []) rfl cs_RL_17 rfl (by decide) (Nat.le_of_ble_eq_true rfl) (c_below (x := x >>> (3 &&& 31)) (n := 3) (by decide) (by decide)) (fun r h1 q9 => ?_)
  obtain ⟨t, ht, rfl, e9⟩ := q9; have e9 := e9.symm; subst e9
  change mi_W pP X kL_law 7 0 0 107 [(8, .int x), (7, .int (nI k)), (6, .int lf), (4, .double q.2.2.2.2.1.2.1), (3, .int rot), (2, .ref (B + 518)), (1, .ref B), (0, .ref 0)] [.int (nI t)] h _
  refine mi_blk okL_law_1 1 (pc' := 109) (lv' := [(9, .int (nI t)), (8, .int x), (7, .int (nI k)), (6, .int lf), (4, .double q.2.2.2.2.1.2.1), (3, .int rot), (2, .ref (B + 518)), (1, .ref B), (0, .ref 0)]) (st' := []) rfl ?_
  obtain ⟨mo, cl, f, g, u, l, e, hmo, hcl, h3, h4, h5⟩ := hI.tk ht
  have k153 : ∀ full : Int32, (full = 1 ∨ full = 0 ∧ cl = 0 ∧ u < g) → mi_W pP X kL_law 7 0 0 153 [(10, .int full), (9, .int (nI t)), (8, .int x), (7, .int (nI k)), (6, .int lf), (4, .double q.2.2.2.2.1.2.1), (3, .int rot), (2, .ref (B + 518)), (1, .ref B), (0, .ref 0)] [] h Q := by
    intro full hfull
    refine mi_blk okL_law_2 2 (pc' := 157) (lv' := [(10, .int full), (9, .int (nI t)), (8, .int x), (7, .int (nI k)), (6, .int lf), (4, .double q.2.2.2.2.1.2.1), (3, .int rot), (2, .ref (B + 518)), (1, .ref B), (0, .ref 0)]) (st' := [.int 13, .int x]) rfl ?_
    refine mi_callS okL_law_2 (mc := 0) (ms := 0) (mc' := 0) (ms' := 0) (As := [.int x, .int 13]) (st := []) rfl cs_RL_17 rfl (by decide) (Nat.le_of_ble_eq_true rfl) (c_below (x := x) (n := 13) (by decide) (by decide)) (fun r h1 q9 => ?_)
    obtain ⟨j, hj, rfl, e9⟩ := q9; have e9 := e9.symm; subst e9
    change mi_W pP X kL_law 7 0 0 160 [(10, .int full), (9, .int (nI t)), (8, .int x), (7, .int (nI k)), (6, .int lf), (4, .double q.2.2.2.2.1.2.1), (3, .int rot), (2, .ref (B + 518)), (1, .ref B), (0, .ref 0)] [.int (nI j)] h _
    rcases (show j = 0 ∨ j = 1 ∨ j = 2 ∨ j = 3 ∨ j = 4 ∨ j = 5 ∨ 6 ≤ j by omega) with rfl | rfl | rfl | rfl | rfl | rfl | hj6
    · exact mi_swin swL_law_160 (x := nI 0) (by decide) (by decide) rfl rfl (w_starve hX0 hX1 hX4 hX hk hL hI ht e hmo h3 h4 h5 hfull (fun q' to' rot' h' a1 a2 a3 a4 => w_tail a1 a2 hI.2.2.2.1.2.2 a3 a4 hlf (kk q' to' rot' h' a1 a2)))
    · exact mi_swin swL_law_160 (x := nI 1) (by decide) (by decide) rfl rfl (w_scratch hX0 hX1 hX4 hX hk hL hI ht (fun q' to' rot' h' a1 a2 a3 a4 => w_tail a1 a2 hI.2.2.2.1.2.2 a3 a4 hlf (kk q' to' rot' h' a1 a2)))
    · exact mi_swin swL_law_160 (x := nI 2) (by decide) (by decide) rfl rfl (w_rot hX0 hX1 hX4 hX hk hL hI ht (fun q' to' rot' h' a1 a2 a3 a4 => w_tail a1 a2 hI.2.2.2.1.2.2 a3 a4 hlf (kk q' to' rot' h' a1 a2)))
    · exact mi_swin swL_law_160 (x := nI 3) (by decide) (by decide) rfl rfl (w_read hX0 hX1 hX4 hX hk hL hI ht (fun q' to' rot' h' a1 a2 a3 a4 => w_tail a1 a2 hI.2.2.2.1.2.2 a3 a4 hlf (kk q' to' rot' h' a1 a2)))
    · exact mi_swin swL_law_160 (x := nI 4) (by decide) (by decide) rfl rfl (w_read hX0 hX1 hX4 hX hk hL hI ht (fun q' to' rot' h' a1 a2 a3 a4 => w_tail a1 a2 hI.2.2.2.1.2.2 a3 a4 hlf (kk q' to' rot' h' a1 a2)))
    · exact mi_swin swL_law_160 (x := nI 5) (by decide) (by decide) rfl rfl (w_close hX0 hX1 hX4 hX hk hL hI ht e hmo h3 h4 h5 (fun q' to' rot' h' a1 a2 a3 a4 => w_tail a1 a2 hI.2.2.2.1.2.2 a3 a4 hlf (kk q' to' rot' h' a1 a2)))
    · exact mi_swout swL_law_160 (x := nI j) (Or.inr (by rw [nI_toInt (by omega)]; omega)) rfl (w_write hX0 hX1 hX4 hX hk hL hI ht e hmo h3 h4 h5 hfull (fun q' to' rot' h' a1 a2 a3 a4 => w_tail a1 a2 hI.2.2.2.1.2.2 a3 a4 hlf (kk q' to' rot' h' a1 a2)))
  rcases hcl with rfl | rfl
  · exact w_full0 hL hI ht e hmo h3 h4 h5 (fun full hf => k153 full (hf.imp id (fun z => ⟨z.1, rfl, z.2⟩)))
  · exact w_full1 hL hI ht e hmo h3 h4 h5 (fun full hf => k153 full (Or.inl hf))
set_option maxHeartbeats 4000000 in
set_option maxRecDepth 100000 in
theorem w_loop {X : mi_X} (hX0 : (X 0).1 < 100000) (hX1 : mi_X1 X) (hX4 : mi_X4 X) (hX : mi_X23 X) {B : Nat} {Q : Option Value → mi_H → Prop} (kk : ∀ (q : ph_T) (to : Nat → Int64) (rot : Int32) (h : mi_H) {lf : Int32}, LH B q to h → LI 80 q to rot → mi_W pP X kL_law 7 0 0 418 [(7, .int (nI 80)), (6, .int lf), (4, .double q.2.2.2.2.1.2.1), (3, .int rot), (2, .ref (B + 518)), (1, .ref B), (0, .ref 0)] [] h Q) : ∀ (m k : Nat), k + m = 80 → ∀ (q : ph_T) (to : Nat → Int64) (rot : Int32) (h : mi_H) (lf : Int32), LH B q to h → LI k q to rot → q.1.2.2.2.1 ≤ lf → mi_W pP X kL_law 7 0 0 75 [(7, .int (nI k)), (6, .int lf), (4, .double q.2.2.2.2.1.2.1), (3, .int rot), (2, .ref (B + 518)), (1, .ref B), (0, .ref 0)] [] h Q := by
  intro m
  induction m with
  | zero =>
    intro k hk q to rot h lf hL hI hlf
    obtain rfl : k = 80 := by omega
    have hw := hL.1
    refine mi_blk okL_law_1 2 (pc' := 79) (lv' := [(7, .int (nI 80)), (6, .int lf), (4, .double q.2.2.2.2.1.2.1), (3, .int rot), (2, .ref (B + 518)), (1, .ref B), (0, .ref 0)]) (st' := [.int 80, .int (nI 80)]) rfl ?_
    refine mi_ic_ge okL_law_1 rfl rfl (fun c_79 => ?_) (fun c_79 => absurd (by decide) c_79)
    exact kk q to rot h hL hI
  | succ m ih =>
    intro k hk q to rot h lf hL hI hlf
    exact w_step hX0 hX1 hX4 hX (by omega) hL hI hlf (fun q' to' rot' h' a1 a2 => ih (k + 1) (by omega) q' to' rot' h' _ a1 a2 (Int32.le_refl _))
