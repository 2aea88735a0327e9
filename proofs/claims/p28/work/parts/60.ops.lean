set_option maxHeartbeats 4000000 in
set_option maxRecDepth 100000 in
theorem w_starve {X : mi_X} (hX0 : (X 0).1 < 100000) (hX1 : mi_X1 X) (hX4 : mi_X4 X) (hX : mi_X23 X) {B : Nat} {q : ph_T} {to : Nat → Int64} {rot : Int32} {h : mi_H} {lf : Int32} {k : Nat} (hk : k < 80) (hL : LH B q to h) (hI : LI k q to rot) {t : Nat} (ht : t < 3) {x : Int32} {mo cl : Int32} {f g u l : Nat} (e : q.2.2.2.1 t = (0, mo, nI f, nI g, nI u, nI l, cl)) (hmo : mo = 0 ∨ mo = 1) (h3 : f + g ≤ 240) (h4 : l ≤ u) (h5 : u ≤ g) {full : Int32} (hfull : full = 1 ∨ full = 0 ∧ cl = 0 ∧ u < g) {Q : Option Value → mi_H → Prop} (kk : ∀ (q' : ph_T) (to' : Nat → Int64) (rot' : Int32) (h' : mi_H), LH B q' to' h' → LI (k + 1) q' to' rot' → zv q.2.2.2.2.1.2.1 ≤ zv q'.2.2.2.2.1.2.1 → q'.1.2.2.2.1 ≤ q.1.2.2.2.1 → mi_W pP X kL_law 7 0 0 377 [(7, .int (nI k)), (6, .int lf), (4, .double q.2.2.2.2.1.2.1), (3, .int rot'), (2, .ref (B + 518)), (1, .ref B), (0, .ref 0)] [] h' Q) : mi_W pP X kL_law 7 0 0 200 [(10, .int full), (9, .int (nI t)), (8, .int x), (7, .int (nI k)), (6, .int lf), (4, .double q.2.2.2.2.1.2.1), (3, .int rot), (2, .ref (B + 518)), (1, .ref B), (0, .ref 0)] [] h Q := by
  have hw := hL.1
  rcases hfull with rfl | ⟨rfl, rfl, hu⟩
  · refine mi_blk okL_law_2 1 (pc' := 202) (lv' := [(10, .int 1), (9, .int (nI t)), (8, .int x), (7, .int (nI k)), (6, .int lf), (4, .double q.2.2.2.2.1.2.1), (3, .int rot), (2, .ref (B + 518)), (1, .ref B), (0, .ref 0)]) (st' := [.int 1]) rfl ?_
    refine mi_if_ne okL_law_2 rfl rfl (fun c_202 => ?_) (fun c_202 => absurd c_202 (by decide))
    exact mi_WX.locs (by simp) (kk _ _ _ _ hL hI.next (Int.le_refl _) (Int32.le_refl _))
  · refine mi_blk okL_law_2 1 (pc' := 202) (lv' := [(10, .int 0), (9, .int (nI t)), (8, .int x), (7, .int (nI k)), (6, .int lf), (4, .double q.2.2.2.2.1.2.1), (3, .int rot), (2, .ref (B + 518)), (1, .ref B), (0, .ref 0)]) (st' := [.int 0]) rfl ?_
    refine mi_if_ne okL_law_2 rfl rfl (fun c_202 => absurd (by decide) c_202) (fun c_202 => ?_)
    refine mi_blk okL_law_2 2 (pc' := 207) (lv' := [(10, .int 0), (9, .int (nI t)), (8, .int x), (7, .int (nI k)), (6, .int lf), (4, .double q.2.2.2.2.1.2.1), (3, .int rot), (2, .ref (B + 518)), (1, .ref B), (0, .ref 0)]) (st' := [.int 3, .ref B]) rfl ?_
    refine mi_callV okL_law_2 (mc := 0) (ms := 0) (mc' := 0) (ms' := 0) (b := B) (As := [.int 3]) (st := []) rfl cv_RL_34 rfl (by decide) (show 6 ≤ _ by have := hw.z; omega) (show _ < h.1 by have := hw.z; omega) hw.ph rfl (Nat.le_of_ble_eq_true rfl) (c_many_3 hw) (fun r h1 q9 => ?_)
    obtain ⟨rfl, e9⟩ := q9; have e9 := e9.symm; subst e9
    change mi_W pP X kL_law 7 0 0 210 [(10, .int 0), (9, .int (nI t)), (8, .int x), (7, .int (nI k)), (6, .int lf), (4, .double q.2.2.2.2.1.2.1), (3, .int rot), (2, .ref (B + 518)), (1, .ref B), (0, .ref 0)] [.int q.1.2.2.2.1] h _
    refine mi_if_le okL_law_2 rfl rfl (fun c_210 => ?_) (fun c_210 => ?_)
    · exact mi_WX.locs (by simp) (kk _ _ _ _ hL hI.next (Int.le_refl _) (Int32.le_refl _))
    · refine mi_blk okL_law_2 2 (pc' := 216) (lv' := [(10, .int 0), (9, .int (nI t)), (8, .int x), (7, .int (nI k)), (6, .int lf), (4, .double q.2.2.2.2.1.2.1), (3, .int rot), (2, .ref (B + 518)), (1, .ref B), (0, .ref 0)]) (st' := [.int (nI t), .ref B]) rfl ?_
      refine mi_callV okL_law_2 (mc := 0) (ms := 0) (mc' := 0) (ms' := 0) (b := B) (As := [.int (nI t)]) (st := []) rfl cv_RL_38 rfl (by decide) (show 6 ≤ _ by have := hw.z; omega) (show _ < h.1 by have := hw.z; omega) hw.ph rfl (Nat.le_of_ble_eq_true rfl) (c_starve hw (show t < 8 by omega) (hI.lt ht) (by rw [e]; exact tr_room_of hu (by omega)) (Classical.byContradiction fun z => c_210 (mi_nlt_le z))) (fun r h1 q9 => ?_)
      obtain ⟨rfl, hx⟩ := q9
      change mi_W pP X kL_law 7 0 0 219 [(10, .int 0), (9, .int (nI t)), (8, .int x), (7, .int (nI k)), (6, .int lf), (4, .double q.2.2.2.2.1.2.1), (3, .int rot), (2, .ref (B + 518)), (1, .ref B), (0, .ref 0)] [.int ((q.2.2.2.1 t).2.2.1 + ((q.2.2.2.1 t).2.2.2.2.1 + 1) - 1)] h1 _
      refine mi_blk okL_law_2 2 (pc' := 377) (lv' := [(10, .int 0), (9, .int (nI t)), (8, .int x), (7, .int (nI k)), (6, .int lf), (4, .double q.2.2.2.2.1.2.1), (3, .int rot), (2, .ref (B + 518)), (1, .ref B), (0, .ref 0)]) (st' := []) rfl ?_
      obtain ⟨i1, i2⟩ := hI.starve ht e hmo h3 h4 hu (Classical.byContradiction fun z => c_210 (mi_nlt_le z))
      exact mi_WX.locs (by simp) (kk _ _ _ _ (hL.go hx) i1 (Int.le_refl _) i2)
set_option maxHeartbeats 4000000 in
set_option maxRecDepth 100000 in
theorem w_scratch {X : mi_X} (hX0 : (X 0).1 < 100000) (hX1 : mi_X1 X) (hX4 : mi_X4 X) (hX : mi_X23 X) {B : Nat} {q : ph_T} {to : Nat → Int64} {rot : Int32} {h : mi_H} {lf : Int32} {k : Nat} (hk : k < 80) (hL : LH B q to h) (hI : LI k q to rot) {t : Nat} (ht : t < 3) {x : Int32} {full : Int32} {Q : Option Value → mi_H → Prop} (kk : ∀ (q' : ph_T) (to' : Nat → Int64) (rot' : Int32) (h' : mi_H), LH B q' to' h' → LI (k + 1) q' to' rot' → zv q.2.2.2.2.1.2.1 ≤ zv q'.2.2.2.2.1.2.1 → q'.1.2.2.2.1 ≤ q.1.2.2.2.1 → mi_W pP X kL_law 7 0 0 377 [(7, .int (nI k)), (6, .int lf), (4, .double q.2.2.2.2.1.2.1), (3, .int rot'), (2, .ref (B + 518)), (1, .ref B), (0, .ref 0)] [] h' Q) : mi_W pP X kL_law 7 0 0 223 [(10, .int full), (9, .int (nI t)), (8, .int x), (7, .int (nI k)), (6, .int lf), (4, .double q.2.2.2.2.1.2.1), (3, .int rot), (2, .ref (B + 518)), (1, .ref B), (0, .ref 0)] [] h Q := by
  have hw := hL.1
  refine mi_blk okL_law_2 5 (pc' := 230) (lv' := [(10, .int full), (9, .int (nI t)), (8, .int x), (7, .int (nI k)), (6, .int lf), (4, .double q.2.2.2.2.1.2.1), (3, .int rot), (2, .ref (B + 518)), (1, .ref B), (0, .ref 0)]) (st' := [.int 9, .int (x >>> (4 &&& 31)), .ref B]) rfl ?_
  refine mi_callS okL_law_2 (mc := 0) (ms := 0) (mc' := 0) (ms' := 0) (As := [.int (x >>> (4 &&& 31)), .int 9]) (st := [.ref B]) rfl cs_RL_17 rfl (by decide) (Nat.le_of_ble_eq_true rfl) (c_below (x := x >>> (4 &&& 31)) (n := 9) (by decide) (by decide)) (fun r h1 q9 => ?_)
  obtain ⟨j1, hj1, rfl, e9⟩ := q9; have e9 := e9.symm; subst e9
  change mi_W pP X kL_law 7 0 0 233 [(10, .int full), (9, .int (nI t)), (8, .int x), (7, .int (nI k)), (6, .int lf), (4, .double q.2.2.2.2.1.2.1), (3, .int rot), (2, .ref (B + 518)), (1, .ref B), (0, .ref 0)] [.int (nI j1), .ref B] h _
  refine mi_blk okL_law_2 5 (pc' := 242) (lv' := [(10, .int full), (9, .int (nI t)), (8, .int x), (7, .int (nI k)), (6, .int lf), (4, .double q.2.2.2.2.1.2.1), (3, .int rot), (2, .ref (B + 518)), (1, .ref B), (0, .ref 0)]) (st' := [.int 20, .int (x >>> (6 &&& 31)), .int 9, .int (nI j1), .ref B]) rfl ?_
  refine mi_callS okL_law_2 (mc := 0) (ms := 0) (mc' := 0) (ms' := 0) (As := [.int (x >>> (6 &&& 31)), .int 20]) (st := [.int 9, .int (nI j1), .ref B]) rfl cs_RL_17 rfl (by decide) (Nat.le_of_ble_eq_true rfl) (c_below (x := x >>> (6 &&& 31)) (n := 20) (by decide) (by decide)) (fun r h1 q9 => ?_)
  obtain ⟨j2, hj2, rfl, e9⟩ := q9; have e9 := e9.symm; subst e9
  change mi_W pP X kL_law 7 0 0 245 [(10, .int full), (9, .int (nI t)), (8, .int x), (7, .int (nI k)), (6, .int lf), (4, .double q.2.2.2.2.1.2.1), (3, .int rot), (2, .ref (B + 518)), (1, .ref B), (0, .ref 0)] [.int (nI j2), .int 9, .int (nI j1), .ref B] h _
  refine mi_blk okL_law_2 1 (pc' := 246) (lv' := [(10, .int full), (9, .int (nI t)), (8, .int x), (7, .int (nI k)), (6, .int lf), (4, .double q.2.2.2.2.1.2.1), (3, .int rot), (2, .ref (B + 518)), (1, .ref B), (0, .ref 0)]) (st' := [.int (9 + (nI j2)), .int (nI j1), .ref B]) rfl ?_
  rw [show (9 : Int32) + nI j2 = nI (9 + j2) from nI_add 9 j2]
  refine mi_blk okL_law_2 1 (pc' := 248) (lv' := [(10, .int full), (9, .int (nI t)), (8, .int x), (7, .int (nI k)), (6, .int lf), (4, .double q.2.2.2.2.1.2.1), (3, .int rot), (2, .ref (B + 518)), (1, .ref B), (0, .ref 0)]) (st' := [.int x, .int (nI (9 + j2)), .int (nI j1), .ref B]) rfl ?_
  refine mi_blk okL_law_2 3 (pc' := 253) (lv' := [(10, .int full), (9, .int (nI t)), (8, .int x), (7, .int (nI k)), (6, .int lf), (4, .double q.2.2.2.2.1.2.1), (3, .int rot), (2, .ref (B + 518)), (1, .ref B), (0, .ref 0)]) (st' := [.int 180, .int (x >>> (5 &&& 31)), .int (nI (9 + j2)), .int (nI j1), .ref B]) rfl ?_
  refine mi_callS okL_law_2 (mc := 0) (ms := 0) (mc' := 0) (ms' := 0) (As := [.int (x >>> (5 &&& 31)), .int 180]) (st := [.int (nI (9 + j2)), .int (nI j1), .ref B]) rfl cs_RL_17 rfl (by decide) (Nat.le_of_ble_eq_true rfl) (c_below (x := x >>> (5 &&& 31)) (n := 180) (by decide) (by decide)) (fun r h1 q9 => ?_)
  obtain ⟨j3, hj3, rfl, e9⟩ := q9; have e9 := e9.symm; subst e9
  change mi_W pP X kL_law 7 0 0 256 [(10, .int full), (9, .int (nI t)), (8, .int x), (7, .int (nI k)), (6, .int lf), (4, .double q.2.2.2.2.1.2.1), (3, .int rot), (2, .ref (B + 518)), (1, .ref B), (0, .ref 0)] [.int (nI j3), .int (nI (9 + j2)), .int (nI j1), .ref B] h _
  refine mi_blk okL_law_2 3 (pc' := 263) (lv' := [(10, .int full), (9, .int (nI t)), (8, .int x), (7, .int (nI k)), (6, .int lf), (4, .double q.2.2.2.2.1.2.1), (3, .int rot), (2, .ref (B + 518)), (1, .ref B), (0, .ref 0)]) (st' := [.int 7, .int x, .int 180, .int (nI j3), .int (nI (9 + j2)), .int (nI j1), .ref B]) rfl ?_
  refine mi_blk okL_law_3 1 (pc' := 264) (lv' := [(10, .int full), (9, .int (nI t)), (8, .int x), (7, .int (nI k)), (6, .int lf), (4, .double q.2.2.2.2.1.2.1), (3, .int rot), (2, .ref (B + 518)), (1, .ref B), (0, .ref 0)]) (st' := [.int (x >>> (7 &&& 31)), .int 180, .int (nI j3), .int (nI (9 + j2)), .int (nI j1), .ref B]) rfl ?_
  refine mi_blk okL_law_3 1 (pc' := 267) (lv' := [(10, .int full), (9, .int (nI t)), (8, .int x), (7, .int (nI k)), (6, .int lf), (4, .double q.2.2.2.2.1.2.1), (3, .int rot), (2, .ref (B + 518)), (1, .ref B), (0, .ref 0)]) (st' := [.int 180, .int (x >>> (7 &&& 31)), .int 180, .int (nI j3), .int (nI (9 + j2)), .int (nI j1), .ref B]) rfl ?_
  refine mi_callS okL_law_3 (mc := 0) (ms := 0) (mc' := 0) (ms' := 0) (As := [.int (x >>> (7 &&& 31)), .int 180]) (st := [.int 180, .int (nI j3), .int (nI (9 + j2)), .int (nI j1), .ref B]) rfl cs_RL_17 rfl (by decide) (Nat.le_of_ble_eq_true rfl) (c_below (x := x >>> (7 &&& 31)) (n := 180) (by decide) (by decide)) (fun r h1 q9 => ?_)
  obtain ⟨j4, hj4, rfl, e9⟩ := q9; have e9 := e9.symm; subst e9
  change mi_W pP X kL_law 7 0 0 270 [(10, .int full), (9, .int (nI t)), (8, .int x), (7, .int (nI k)), (6, .int lf), (4, .double q.2.2.2.2.1.2.1), (3, .int rot), (2, .ref (B + 518)), (1, .ref B), (0, .ref 0)] [.int (nI j4), .int 180, .int (nI j3), .int (nI (9 + j2)), .int (nI j1), .ref B] h _
  refine mi_blk okL_law_3 1 (pc' := 271) (lv' := [(10, .int full), (9, .int (nI t)), (8, .int x), (7, .int (nI k)), (6, .int lf), (4, .double q.2.2.2.2.1.2.1), (3, .int rot), (2, .ref (B + 518)), (1, .ref B), (0, .ref 0)]) (st' := [.int (180 + (nI j4)), .int (nI j3), .int (nI (9 + j2)), .int (nI j1), .ref B]) rfl ?_
  rw [show (180 : Int32) + nI j4 = nI (180 + j4) from nI_add 180 j4]
  refine mi_callV okL_law_3 (mc := 0) (ms := 0) (mc' := 0) (ms' := 0) (b := B) (As := [.int (nI j1), .int (nI (9 + j2)), .int (nI j3), .int (nI (180 + j4))]) (st := []) rfl cv_RL_41 rfl (by decide) (show 6 ≤ _ by have := hw.z; omega) (show _ < h.1 by have := hw.z; omega) hw.ph rfl (Nat.le_of_ble_eq_true rfl) (c_scratch hX hX1 hX4 hw (a1 := j1) (a2 := 9 + j2) (a3 := j3) (a4 := 180 + j4) (mm := (180 + j4 - j3) / 90) (by omega) (by rw [pk_sub (show j3 ≤ 180 + j4 by omega)]; exact pk_div (a := 180 + j4 - j3) (d := 90) (by omega) (by decide) (by decide)) (by omega) (by omega) (by omega) (by omega) (by omega) (by omega)) (fun r h1 q9 => ?_)
  obtain ⟨c9, rfl, S, b, cp, mk, hx, he⟩ := q9
  change mi_W pP X kL_law 7 0 0 274 [(10, .int full), (9, .int (nI t)), (8, .int x), (7, .int (nI k)), (6, .int lf), (4, .double q.2.2.2.2.1.2.1), (3, .int rot), (2, .ref (B + 518)), (1, .ref B), (0, .ref 0)] [.int c9] h1 _
  refine mi_blk okL_law_3 2 (pc' := 377) (lv' := [(10, .int full), (9, .int (nI t)), (8, .int x), (7, .int (nI k)), (6, .int lf), (4, .double q.2.2.2.2.1.2.1), (3, .int rot), (2, .ref (B + 518)), (1, .ref B), (0, .ref 0)]) (st' := []) rfl ?_
  exact mi_WX.locs (by simp) (kk _ _ _ _ (hL.go hx) (hI.er he) (Int.le_refl _) (Int32.le_refl _))
set_option maxHeartbeats 4000000 in
set_option maxRecDepth 100000 in
theorem w_rot {X : mi_X} (hX0 : (X 0).1 < 100000) (hX1 : mi_X1 X) (hX4 : mi_X4 X) (hX : mi_X23 X) {B : Nat} {q : ph_T} {to : Nat → Int64} {rot : Int32} {h : mi_H} {lf : Int32} {k : Nat} (hk : k < 80) (hL : LH B q to h) (hI : LI k q to rot) {t : Nat} (ht : t < 3) {x : Int32} {full : Int32} {Q : Option Value → mi_H → Prop} (kk : ∀ (q' : ph_T) (to' : Nat → Int64) (rot' : Int32) (h' : mi_H), LH B q' to' h' → LI (k + 1) q' to' rot' → zv q.2.2.2.2.1.2.1 ≤ zv q'.2.2.2.2.1.2.1 → q'.1.2.2.2.1 ≤ q.1.2.2.2.1 → mi_W pP X kL_law 7 0 0 377 [(7, .int (nI k)), (6, .int lf), (4, .double q.2.2.2.2.1.2.1), (3, .int rot'), (2, .ref (B + 518)), (1, .ref B), (0, .ref 0)] [] h' Q) : mi_W pP X kL_law 7 0 0 278 [(10, .int full), (9, .int (nI t)), (8, .int x), (7, .int (nI k)), (6, .int lf), (4, .double q.2.2.2.2.1.2.1), (3, .int rot), (2, .ref (B + 518)), (1, .ref B), (0, .ref 0)] [] h Q := by
  have hw := hL.1
  refine mi_blk okL_law_3 6 (pc' := 287) (lv' := [(10, .int full), (9, .int (nI t)), (8, .int x), (7, .int (nI k)), (6, .int lf), (4, .double q.2.2.2.2.1.2.1), (3, .int rot), (2, .ref (B + 518)), (1, .ref B), (0, .ref 0)]) (st' := [.int 1000, .int (x >>> (4 &&& 31)), .ref B, .int rot]) rfl ?_
  refine mi_callS okL_law_3 (mc := 0) (ms := 0) (mc' := 0) (ms' := 0) (As := [.int (x >>> (4 &&& 31)), .int 1000]) (st := [.ref B, .int rot]) rfl cs_RL_17 rfl (by decide) (Nat.le_of_ble_eq_true rfl) (c_below (x := x >>> (4 &&& 31)) (n := 1000) (by decide) (by decide)) (fun r h1 q9 => ?_)
  obtain ⟨j1, hj1, rfl, e9⟩ := q9; have e9 := e9.symm; subst e9
  change mi_W pP X kL_law 7 0 0 290 [(10, .int full), (9, .int (nI t)), (8, .int x), (7, .int (nI k)), (6, .int lf), (4, .double q.2.2.2.2.1.2.1), (3, .int rot), (2, .ref (B + 518)), (1, .ref B), (0, .ref 0)] [.int (nI j1), .ref B, .int rot] h _
  refine mi_callV okL_law_3 (mc := 0) (ms := 0) (mc' := 0) (ms' := 0) (b := B) (As := [.int (nI j1)]) (st := [.int rot]) rfl cv_RL_45 rfl (by decide) (show 6 ≤ _ by have := hw.z; omega) (show _ < h.1 by have := hw.z; omega) hw.ph rfl (Nat.le_of_ble_eq_true rfl) (c_rot hX1 hX4 hw (r := j1) (by omega)) (fun r h1 q9 => ?_)
  obtain ⟨c9, hc9, rfl, S, b, cp, mk, hx, he, h0⟩ := q9
  change mi_W pP X kL_law 7 0 0 293 [(10, .int full), (9, .int (nI t)), (8, .int x), (7, .int (nI k)), (6, .int lf), (4, .double q.2.2.2.2.1.2.1), (3, .int rot), (2, .ref (B + 518)), (1, .ref B), (0, .ref 0)] [.int (nI c9), .int rot] h1 _
  refine mi_if_le okL_law_3 rfl rfl (fun c_293 => ?_) (fun c_293 => ?_)
  · refine mi_blk okL_law_3 4 (pc' := 377) (lv' := [(3, .int (rot ||| 0)), (10, .int full), (9, .int (nI t)), (8, .int x), (7, .int (nI k)), (6, .int lf), (4, .double q.2.2.2.2.1.2.1), (2, .ref (B + 518)), (1, .ref B), (0, .ref 0)]) (st' := []) rfl ?_
    have hc0 : c9 = 0 := by
      rcases Nat.eq_zero_or_pos c9 with z | z
      · exact z
      · exact absurd c_293 (nI_nle z (by omega))
    obtain ⟨e1, e2⟩ := h0 hc0
    subst e1 e2
    rw [Int32.or_zero]
    exact mi_WX.locs (by simp) (kk _ to rot _ (hL.go hx) (hI.er fun s hs => Or.inl ⟨rfl, rfl⟩) (Int.le_refl _) (Int32.le_refl _))
  · refine mi_blk okL_law_3 5 (pc' := 377) (lv' := [(3, .int (rot ||| 1)), (10, .int full), (9, .int (nI t)), (8, .int x), (7, .int (nI k)), (6, .int lf), (4, .double q.2.2.2.2.1.2.1), (2, .ref (B + 518)), (1, .ref B), (0, .ref 0)]) (st' := []) rfl ?_
    rw [show rot ||| 1 = 1 from by rcases hI.2.2.2.2.2 with z | z <;> (rw [z]; decide)]
    exact mi_WX.locs (by simp) (kk _ to 1 _ (hL.go hx) (hI.ro he) (Int.le_refl _) (Int32.le_refl _))
set_option maxHeartbeats 4000000 in
set_option maxRecDepth 100000 in
theorem w_read {X : mi_X} (hX0 : (X 0).1 < 100000) (hX1 : mi_X1 X) (hX4 : mi_X4 X) (hX : mi_X23 X) {B : Nat} {q : ph_T} {to : Nat → Int64} {rot : Int32} {h : mi_H} {lf : Int32} {k : Nat} (hk : k < 80) (hL : LH B q to h) (hI : LI k q to rot) {t : Nat} (ht : t < 3) {x : Int32} {full : Int32} {Q : Option Value → mi_H → Prop} (kk : ∀ (q' : ph_T) (to' : Nat → Int64) (rot' : Int32) (h' : mi_H), LH B q' to' h' → LI (k + 1) q' to' rot' → zv q.2.2.2.2.1.2.1 ≤ zv q'.2.2.2.2.1.2.1 → q'.1.2.2.2.1 ≤ q.1.2.2.2.1 → mi_W pP X kL_law 7 0 0 377 [(7, .int (nI k)), (6, .int lf), (4, .double q.2.2.2.2.1.2.1), (3, .int rot'), (2, .ref (B + 518)), (1, .ref B), (0, .ref 0)] [] h' Q) : mi_W pP X kL_law 7 0 0 306 [(10, .int full), (9, .int (nI t)), (8, .int x), (7, .int (nI k)), (6, .int lf), (4, .double q.2.2.2.2.1.2.1), (3, .int rot), (2, .ref (B + 518)), (1, .ref B), (0, .ref 0)] [] h Q := by
  have hw := hL.1
  refine mi_blk okL_law_3 5 (pc' := 314) (lv' := [(10, .int full), (9, .int (nI t)), (8, .int x), (7, .int (nI k)), (6, .int lf), (4, .double q.2.2.2.2.1.2.1), (3, .int rot), (2, .ref (B + 518)), (1, .ref B), (0, .ref 0)]) (st' := [.int 240, .int (x >>> (4 &&& 31)), .ref B]) rfl ?_
  refine mi_callS okL_law_3 (mc := 0) (ms := 0) (mc' := 0) (ms' := 0) (As := [.int (x >>> (4 &&& 31)), .int 240]) (st := [.ref B]) rfl cs_RL_17 rfl (by decide) (Nat.le_of_ble_eq_true rfl) (c_below (x := x >>> (4 &&& 31)) (n := 240) (by decide) (by decide)) (fun r h1 q9 => ?_)
  obtain ⟨j1, hj1, rfl, e9⟩ := q9; have e9 := e9.symm; subst e9
  change mi_W pP X kL_law 7 0 0 317 [(10, .int full), (9, .int (nI t)), (8, .int x), (7, .int (nI k)), (6, .int lf), (4, .double q.2.2.2.2.1.2.1), (3, .int rot), (2, .ref (B + 518)), (1, .ref B), (0, .ref 0)] [.int (nI j1), .ref B] h _
  refine mi_callV okL_law_3 (mc := 0) (ms := 0) (mc' := 0) (ms' := 0) (b := B) (As := [.int (nI j1)]) (st := []) rfl cv_RL_48 rfl (by decide) (show 6 ≤ _ by have := hw.z; omega) (show _ < h.1 by have := hw.z; omega) hw.ph rfl (Nat.le_of_ble_eq_true rfl) (c_read hX hw hj1 hI.2.2.2.1.1 hI.2.2.2.1.2.1 (hI.read hk hj1).1) (fun r h1 q9 => ?_)
  obtain ⟨rfl, e9⟩ := q9; subst e9
  change mi_W pP X kL_law 7 0 0 320 [(10, .int full), (9, .int (nI t)), (8, .int x), (7, .int (nI k)), (6, .int lf), (4, .double q.2.2.2.2.1.2.1), (3, .int rot), (2, .ref (B + 518)), (1, .ref B), (0, .ref 0)] [.int ((q.2.1 j1).2.2.2.1)] (mi_set h (B + 26) (dv_c (hd_b j1) (dr_cb q.2.2.2.2.1.2.1 q.2.2.2.2.1.1 j1) (q.2.2.2.2.1.2.2.1 + 1) q.2.2.2.2.1.2.2.2.1 q.2.2.2.2.1.2.2.2.2)) _
  refine mi_blk okL_law_3 2 (pc' := 377) (lv' := [(10, .int full), (9, .int (nI t)), (8, .int x), (7, .int (nI k)), (6, .int lf), (4, .double q.2.2.2.2.1.2.1), (3, .int rot), (2, .ref (B + 518)), (1, .ref B), (0, .ref 0)]) (st' := []) rfl ?_
  exact mi_WX.locs (by simp) (kk _ _ _ _ (hL.go ((ph_X.rf hw).set_dr _ _ _ _ _)) (hI.read hk hj1).2.1 (hI.read hk hj1).2.2 (Int32.le_refl _))
set_option maxHeartbeats 4000000 in
set_option maxRecDepth 100000 in
theorem w_close {X : mi_X} (hX0 : (X 0).1 < 100000) (hX1 : mi_X1 X) (hX4 : mi_X4 X) (hX : mi_X23 X) {B : Nat} {q : ph_T} {to : Nat → Int64} {rot : Int32} {h : mi_H} {lf : Int32} {k : Nat} (hk : k < 80) (hL : LH B q to h) (hI : LI k q to rot) {t : Nat} (ht : t < 3) {x : Int32} {mo cl : Int32} {f g u l : Nat} (e : q.2.2.2.1 t = (0, mo, nI f, nI g, nI u, nI l, cl)) (hmo : mo = 0 ∨ mo = 1) (h3 : f + g ≤ 240) (h4 : l ≤ u) (h5 : u ≤ g) {full : Int32} {Q : Option Value → mi_H → Prop} (kk : ∀ (q' : ph_T) (to' : Nat → Int64) (rot' : Int32) (h' : mi_H), LH B q' to' h' → LI (k + 1) q' to' rot' → zv q.2.2.2.2.1.2.1 ≤ zv q'.2.2.2.2.1.2.1 → q'.1.2.2.2.1 ≤ q.1.2.2.2.1 → mi_W pP X kL_law 7 0 0 377 [(7, .int (nI k)), (6, .int lf), (4, .double q.2.2.2.2.1.2.1), (3, .int rot'), (2, .ref (B + 518)), (1, .ref B), (0, .ref 0)] [] h' Q) : mi_W pP X kL_law 7 0 0 324 [(10, .int full), (9, .int (nI t)), (8, .int x), (7, .int (nI k)), (6, .int lf), (4, .double q.2.2.2.2.1.2.1), (3, .int rot), (2, .ref (B + 518)), (1, .ref B), (0, .ref 0)] [] h Q := by
  have hw := hL.1
  by_cases hl : nI t = q.1.2.1 - 1
  · refine mi_blk okL_law_3 3 (pc' := 329) (lv' := [(10, .int full), (9, .int (nI t)), (8, .int x), (7, .int (nI k)), (6, .int lf), (4, .double q.2.2.2.2.1.2.1), (3, .int rot), (2, .ref (B + 518)), (1, .ref B), (0, .ref 0)]) (st' := [.int 6, .int (nI t), .ref B]) rfl ?_
    refine mi_callV okL_law_3 (mc := 0) (ms := 0) (mc' := 0) (ms' := 0) (b := B) (As := [.int (nI t), .int 6]) (st := []) rfl cv_RL_31 rfl (by decide) (show 6 ≤ _ by have := hw.z; omega) (show _ < h.1 by have := hw.z; omega) hw.ph rfl (Nat.le_of_ble_eq_true rfl) (c_ofTrack_6 hw (show t < 8 by omega) (hI.lt ht)) (fun r h1 q9 => ?_)
    obtain ⟨rfl, e9⟩ := q9; have e9 := e9.symm; subst e9
    change mi_W pP X kL_law 7 0 0 332 [(10, .int full), (9, .int (nI t)), (8, .int x), (7, .int (nI k)), (6, .int lf), (4, .double q.2.2.2.2.1.2.1), (3, .int rot), (2, .ref (B + 518)), (1, .ref B), (0, .ref 0)] [.int (if (q.2.2.2.1 t).2.2.2.2.2.2 = 0 then 0 else 1)] h _
    refine mi_if_ne okL_law_3 rfl rfl (fun c_332 => ?_) (fun c_332 => ?_)
    · exact mi_WX.locs (by simp) (kk _ _ _ _ hL hI.next (Int.le_refl _) (Int32.le_refl _))
    · refine mi_blk okL_law_3 2 (pc' := 339) (lv' := [(10, .int full), (9, .int (nI t)), (8, .int x), (7, .int (nI k)), (6, .int lf), (4, .double q.2.2.2.2.1.2.1), (3, .int rot), (2, .ref (B + 518)), (1, .ref B), (0, .ref 0)]) (st' := [.int 60, .int (nI k)]) rfl ?_
      refine mi_ic_le okL_law_3 rfl rfl (fun c_339 => ?_) (fun c_339 => ?_)
      · exact mi_WX.locs (by simp) (kk _ _ _ _ hL hI.next (Int.le_refl _) (Int32.le_refl _))
      · refine mi_blk okL_law_3 1 (pc' := 343) (lv' := [(10, .int full), (9, .int (nI t)), (8, .int x), (7, .int (nI k)), (6, .int lf), (4, .double q.2.2.2.2.1.2.1), (3, .int rot), (2, .ref (B + 518)), (1, .ref B), (0, .ref 0)]) (st' := [.ref B]) rfl ?_
        have hcl : (q.2.2.2.1 t).2.2.2.2.2.2 = 0 := (show (q.2.2.2.1 t).2.2.2.2.2.2 = 0 from Classical.byContradiction fun z => by rw [if_neg z] at c_332; exact absurd c_332 (by decide))
        refine mi_blk okL_law_4 1 (pc' := 345) (lv' := [(10, .int full), (9, .int (nI t)), (8, .int x), (7, .int (nI k)), (6, .int lf), (4, .double q.2.2.2.2.1.2.1), (3, .int rot), (2, .ref (B + 518)), (1, .ref B), (0, .ref 0)]) (st' := [.int (nI t), .ref B]) rfl ?_
        refine mi_callV okL_law_4 (mc := 0) (ms := 0) (mc' := 0) (ms' := 0) (b := B) (As := [.int (nI t)]) (st := []) rfl cv_RL_51 rfl (by decide) (show 6 ≤ _ by have := hw.z; omega) (show _ < h.1 by have := hw.z; omega) hw.ph rfl (Nat.le_of_ble_eq_true rfl) (c_close_1 hw (show t < 8 by omega) (hI.lt ht) hcl hl) (fun r h1 q9 => ?_)
        obtain ⟨rfl, hx⟩ := q9
        change mi_W pP X kL_law 7 0 0 348 [(10, .int full), (9, .int (nI t)), (8, .int x), (7, .int (nI k)), (6, .int lf), (4, .double q.2.2.2.2.1.2.1), (3, .int rot), (2, .ref (B + 518)), (1, .ref B), (0, .ref 0)] [.int ((q.2.2.2.1 t).2.2.2.1 - (q.2.2.2.1 t).2.2.2.2.1)] h1 _
        refine mi_blk okL_law_4 2 (pc' := 377) (lv' := [(10, .int full), (9, .int (nI t)), (8, .int x), (7, .int (nI k)), (6, .int lf), (4, .double q.2.2.2.2.1.2.1), (3, .int rot), (2, .ref (B + 518)), (1, .ref B), (0, .ref 0)]) (st' := []) rfl ?_
        exact mi_WX.locs (by simp) (kk _ _ _ _ (hL.go hx) (hI.close1 e hmo h3 h4 h5) (Int.le_refl _) (Int32.le_refl _))
  · refine mi_blk okL_law_3 3 (pc' := 329) (lv' := [(10, .int full), (9, .int (nI t)), (8, .int x), (7, .int (nI k)), (6, .int lf), (4, .double q.2.2.2.2.1.2.1), (3, .int rot), (2, .ref (B + 518)), (1, .ref B), (0, .ref 0)]) (st' := [.int 6, .int (nI t), .ref B]) rfl ?_
    refine mi_callV okL_law_3 (mc := 0) (ms := 0) (mc' := 0) (ms' := 0) (b := B) (As := [.int (nI t), .int 6]) (st := []) rfl cv_RL_31 rfl (by decide) (show 6 ≤ _ by have := hw.z; omega) (show _ < h.1 by have := hw.z; omega) hw.ph rfl (Nat.le_of_ble_eq_true rfl) (c_ofTrack_6 hw (show t < 8 by omega) (hI.lt ht)) (fun r h1 q9 => ?_)
    obtain ⟨rfl, e9⟩ := q9; have e9 := e9.symm; subst e9
    change mi_W pP X kL_law 7 0 0 332 [(10, .int full), (9, .int (nI t)), (8, .int x), (7, .int (nI k)), (6, .int lf), (4, .double q.2.2.2.2.1.2.1), (3, .int rot), (2, .ref (B + 518)), (1, .ref B), (0, .ref 0)] [.int (if (q.2.2.2.1 t).2.2.2.2.2.2 = 0 then 0 else 1)] h _
    refine mi_if_ne okL_law_3 rfl rfl (fun c_332 => ?_) (fun c_332 => ?_)
    · exact mi_WX.locs (by simp) (kk _ _ _ _ hL hI.next (Int.le_refl _) (Int32.le_refl _))
    · refine mi_blk okL_law_3 2 (pc' := 339) (lv' := [(10, .int full), (9, .int (nI t)), (8, .int x), (7, .int (nI k)), (6, .int lf), (4, .double q.2.2.2.2.1.2.1), (3, .int rot), (2, .ref (B + 518)), (1, .ref B), (0, .ref 0)]) (st' := [.int 60, .int (nI k)]) rfl ?_
      refine mi_ic_le okL_law_3 rfl rfl (fun c_339 => ?_) (fun c_339 => ?_)
      · exact mi_WX.locs (by simp) (kk _ _ _ _ hL hI.next (Int.le_refl _) (Int32.le_refl _))
      · refine mi_blk okL_law_3 1 (pc' := 343) (lv' := [(10, .int full), (9, .int (nI t)), (8, .int x), (7, .int (nI k)), (6, .int lf), (4, .double q.2.2.2.2.1.2.1), (3, .int rot), (2, .ref (B + 518)), (1, .ref B), (0, .ref 0)]) (st' := [.ref B]) rfl ?_
        have hcl : (q.2.2.2.1 t).2.2.2.2.2.2 = 0 := (show (q.2.2.2.1 t).2.2.2.2.2.2 = 0 from Classical.byContradiction fun z => by rw [if_neg z] at c_332; exact absurd c_332 (by decide))
        refine mi_blk okL_law_4 1 (pc' := 345) (lv' := [(10, .int full), (9, .int (nI t)), (8, .int x), (7, .int (nI k)), (6, .int lf), (4, .double q.2.2.2.2.1.2.1), (3, .int rot), (2, .ref (B + 518)), (1, .ref B), (0, .ref 0)]) (st' := [.int (nI t), .ref B]) rfl ?_
        refine mi_callV okL_law_4 (mc := 0) (ms := 0) (mc' := 0) (ms' := 0) (b := B) (As := [.int (nI t)]) (st := []) rfl cv_RL_51 rfl (by decide) (show 6 ≤ _ by have := hw.z; omega) (show _ < h.1 by have := hw.z; omega) hw.ph rfl (Nat.le_of_ble_eq_true rfl) (c_close_0 hw (show t < 8 by omega) (hI.lt ht) hcl hl) (fun r h1 q9 => ?_)
        obtain ⟨rfl, hx⟩ := q9
        change mi_W pP X kL_law 7 0 0 348 [(10, .int full), (9, .int (nI t)), (8, .int x), (7, .int (nI k)), (6, .int lf), (4, .double q.2.2.2.2.1.2.1), (3, .int rot), (2, .ref (B + 518)), (1, .ref B), (0, .ref 0)] [.int 0] h1 _
        refine mi_blk okL_law_4 2 (pc' := 377) (lv' := [(10, .int full), (9, .int (nI t)), (8, .int x), (7, .int (nI k)), (6, .int lf), (4, .double q.2.2.2.2.1.2.1), (3, .int rot), (2, .ref (B + 518)), (1, .ref B), (0, .ref 0)]) (st' := []) rfl ?_
        exact mi_WX.locs (by simp) (kk _ _ _ _ (hL.go hx) (hI.close0 e hmo h3 h4 h5) (Int.le_refl _) (Int32.le_refl _))
set_option maxHeartbeats 4000000 in
set_option maxRecDepth 100000 in
theorem w_write {X : mi_X} (hX0 : (X 0).1 < 100000) (hX1 : mi_X1 X) (hX4 : mi_X4 X) (hX : mi_X23 X) {B : Nat} {q : ph_T} {to : Nat → Int64} {rot : Int32} {h : mi_H} {lf : Int32} {k : Nat} (hk : k < 80) (hL : LH B q to h) (hI : LI k q to rot) {t : Nat} (ht : t < 3) {x : Int32} {mo cl : Int32} {f g u l : Nat} (e : q.2.2.2.1 t = (0, mo, nI f, nI g, nI u, nI l, cl)) (hmo : mo = 0 ∨ mo = 1) (h3 : f + g ≤ 240) (h4 : l ≤ u) (h5 : u ≤ g) {full : Int32} (hfull : full = 1 ∨ full = 0 ∧ cl = 0 ∧ u < g) {Q : Option Value → mi_H → Prop} (kk : ∀ (q' : ph_T) (to' : Nat → Int64) (rot' : Int32) (h' : mi_H), LH B q' to' h' → LI (k + 1) q' to' rot' → zv q.2.2.2.2.1.2.1 ≤ zv q'.2.2.2.2.1.2.1 → q'.1.2.2.2.1 ≤ q.1.2.2.2.1 → mi_W pP X kL_law 7 0 0 377 [(7, .int (nI k)), (6, .int lf), (4, .double q.2.2.2.2.1.2.1), (3, .int rot'), (2, .ref (B + 518)), (1, .ref B), (0, .ref 0)] [] h' Q) : mi_W pP X kL_law 7 0 0 352 [(10, .int full), (9, .int (nI t)), (8, .int x), (7, .int (nI k)), (6, .int lf), (4, .double q.2.2.2.2.1.2.1), (3, .int rot), (2, .ref (B + 518)), (1, .ref B), (0, .ref 0)] [] h Q := by
  have hw := hL.1
  rcases hfull with rfl | ⟨rfl, rfl, hu⟩
  · refine mi_blk okL_law_4 1 (pc' := 354) (lv' := [(10, .int 1), (9, .int (nI t)), (8, .int x), (7, .int (nI k)), (6, .int lf), (4, .double q.2.2.2.2.1.2.1), (3, .int rot), (2, .ref (B + 518)), (1, .ref B), (0, .ref 0)]) (st' := [.int 1]) rfl ?_
    refine mi_if_ne okL_law_4 rfl rfl (fun c_354 => ?_) (fun c_354 => absurd c_354 (by decide))
    exact mi_WX.locs (by simp) (kk _ _ _ _ hL hI.next (Int.le_refl _) (Int32.le_refl _))
  · have hs : (q.2.2.2.1 t).2.2.1 + ((q.2.2.2.1 t).2.2.2.2.1 + 1) - 1 = nI (f + u) := by
      rw [e]
      show nI f + (nI u + 1) - 1 = _
      rw [← nI_succ, nI_add, show f + (u + 1) = f + u + 1 by omega]
      exact nI_pred _
    rcases hmo with rfl | rfl
    · refine mi_blk okL_law_4 1 (pc' := 354) (lv' := [(10, .int 0), (9, .int (nI t)), (8, .int x), (7, .int (nI k)), (6, .int lf), (4, .double q.2.2.2.2.1.2.1), (3, .int rot), (2, .ref (B + 518)), (1, .ref B), (0, .ref 0)]) (st' := [.int 0]) rfl ?_
      refine mi_if_ne okL_law_4 rfl rfl (fun c_354 => absurd (by decide) c_354) (fun c_354 => ?_)
      refine mi_blk okL_law_4 2 (pc' := 360) (lv' := [(10, .int 0), (9, .int (nI t)), (8, .int x), (7, .int (nI k)), (6, .int lf), (4, .double q.2.2.2.2.1.2.1), (3, .int rot), (2, .ref (B + 518)), (1, .ref B), (0, .ref 0)]) (st' := [.int (nI k), .ref 0]) rfl ?_
      refine mi_callS okL_law_4 (mc := 0) (ms := 0) (mc' := 0) (ms' := 0) (As := [.ref 0, .int (nI k)]) (st := []) rfl cs_RL_54 rfl (by decide) (Nat.le_of_ble_eq_true rfl) (c_nibL hX0 (i := k) (by omega)) (fun r h1 q9 => ?_)
      obtain ⟨m, hm, rfl, e9⟩ := q9; have e9 := e9.symm; subst e9
      change mi_W pP X kL_law 7 0 0 363 [(10, .int 0), (9, .int (nI t)), (8, .int x), (7, .int (nI k)), (6, .int lf), (4, .double q.2.2.2.2.1.2.1), (3, .int rot), (2, .ref (B + 518)), (1, .ref B), (0, .ref 0)] [.long m] h _
      refine mi_blk okL_law_4 5 (pc' := 371) (lv' := [(11, .long m), (10, .int 0), (9, .int (nI t)), (8, .int x), (7, .int (nI k)), (6, .int lf), (4, .double q.2.2.2.2.1.2.1), (3, .int rot), (2, .ref (B + 518)), (1, .ref B), (0, .ref 0)]) (st' := [.long m, .int (nI t), .ref B, .ref (B + 518)]) rfl ?_
      refine mi_callV okL_law_4 (mc := 0) (ms := 0) (mc' := 0) (ms' := 0) (b := B) (As := [.int (nI t), .long m]) (st := [.ref (B + 518)]) rfl cv_RL_58 rfl (by decide) (show 6 ≤ _ by have := hw.z; omega) (show _ < h.1 by have := hw.z; omega) hw.ph rfl (Nat.le_of_ble_eq_true rfl) (c_write_0 hX1 hX4 hw (show t < 8 by omega) (hI.lt ht) (s := f + u) (by omega) (okm_ge hm).1 (okm_ge hm).2 (by rw [e]; exact tr_room_of hu (by omega)) hs (by rw [e])) (fun r h1 q9 => ?_)
      obtain ⟨rfl, hx⟩ := q9
      change mi_W pP X kL_law 7 0 0 374 [(11, .long m), (10, .int 0), (9, .int (nI t)), (8, .int x), (7, .int (nI k)), (6, .int lf), (4, .double q.2.2.2.2.1.2.1), (3, .int rot), (2, .ref (B + 518)), (1, .ref B), (0, .ref 0)] [.int (nI (f + u)), .ref (B + 518)] h1 _
      refine mi_blk okL_law_4 1 (pc' := 376) (lv' := [(11, .long m), (10, .int 0), (9, .int (nI t)), (8, .int x), (7, .int (nI k)), (6, .int lf), (4, .double q.2.2.2.2.1.2.1), (3, .int rot), (2, .ref (B + 518)), (1, .ref B), (0, .ref 0)]) (st' := [.long m, .int (nI (f + u)), .ref (B + 518)]) rfl ?_
      have hL1 := hL.go hx
      refine mi_last okL_law_4 (t := 1) (n := 240) (f := to) (i := nI (f + u)) (x := m) rfl rfl (show 6 ≤ B + 518 by have := hw.z; omega) (by have := hL1.2.2; omega) hL1.2.1 (vp_in_lt (by omega) (by decide)) ?_
      rw [nI_clamp (by omega)]
      change mi_W pP X kL_law 7 0 0 377 [(11, .long m), (10, .int 0), (9, .int (nI t)), (8, .int x), (7, .int (nI k)), (6, .int lf), (4, .double q.2.2.2.2.1.2.1), (3, .int rot), (2, .ref (B + 518)), (1, .ref B), (0, .ref 0)] [] (mi_set h1 (B + 518) (.inl (1, 240, .inr (.inl (va_up to (f + u) m))))) _
      exact mi_WX.locs (by simp) (kk _ _ _ _ ⟨hL1.1.out (Nat.le_refl _) _, mi_set_self, hL1.2.2⟩ (hI.write ht e (Or.inl rfl) h3 h4 hu hm 0) (Int.le_refl _) (Int32.le_refl _))
    · refine mi_blk okL_law_4 1 (pc' := 354) (lv' := [(10, .int 0), (9, .int (nI t)), (8, .int x), (7, .int (nI k)), (6, .int lf), (4, .double q.2.2.2.2.1.2.1), (3, .int rot), (2, .ref (B + 518)), (1, .ref B), (0, .ref 0)]) (st' := [.int 0]) rfl ?_
      refine mi_if_ne okL_law_4 rfl rfl (fun c_354 => absurd (by decide) c_354) (fun c_354 => ?_)
      refine mi_blk okL_law_4 2 (pc' := 360) (lv' := [(10, .int 0), (9, .int (nI t)), (8, .int x), (7, .int (nI k)), (6, .int lf), (4, .double q.2.2.2.2.1.2.1), (3, .int rot), (2, .ref (B + 518)), (1, .ref B), (0, .ref 0)]) (st' := [.int (nI k), .ref 0]) rfl ?_
      refine mi_callS okL_law_4 (mc := 0) (ms := 0) (mc' := 0) (ms' := 0) (As := [.ref 0, .int (nI k)]) (st := []) rfl cs_RL_54 rfl (by decide) (Nat.le_of_ble_eq_true rfl) (c_nibL hX0 (i := k) (by omega)) (fun r h1 q9 => ?_)
      obtain ⟨m, hm, rfl, e9⟩ := q9; have e9 := e9.symm; subst e9
      change mi_W pP X kL_law 7 0 0 363 [(10, .int 0), (9, .int (nI t)), (8, .int x), (7, .int (nI k)), (6, .int lf), (4, .double q.2.2.2.2.1.2.1), (3, .int rot), (2, .ref (B + 518)), (1, .ref B), (0, .ref 0)] [.long m] h _
      refine mi_blk okL_law_4 5 (pc' := 371) (lv' := [(11, .long m), (10, .int 0), (9, .int (nI t)), (8, .int x), (7, .int (nI k)), (6, .int lf), (4, .double q.2.2.2.2.1.2.1), (3, .int rot), (2, .ref (B + 518)), (1, .ref B), (0, .ref 0)]) (st' := [.long m, .int (nI t), .ref B, .ref (B + 518)]) rfl ?_
      refine mi_callV okL_law_4 (mc := 0) (ms := 0) (mc' := 0) (ms' := 0) (b := B) (As := [.int (nI t), .long m]) (st := [.ref (B + 518)]) rfl cv_RL_58 rfl (by decide) (show 6 ≤ _ by have := hw.z; omega) (show _ < h.1 by have := hw.z; omega) hw.ph rfl (Nat.le_of_ble_eq_true rfl) (c_write_1 hX1 hX4 hw (show t < 8 by omega) (hI.lt ht) (s := f + u) (by omega) (okm_ge hm).1 (okm_ge hm).2 (by rw [e]; exact tr_room_of hu (by omega)) hs (by rw [e])) (fun r h1 q9 => ?_)
      obtain ⟨rfl, hx⟩ := q9
      change mi_W pP X kL_law 7 0 0 374 [(11, .long m), (10, .int 0), (9, .int (nI t)), (8, .int x), (7, .int (nI k)), (6, .int lf), (4, .double q.2.2.2.2.1.2.1), (3, .int rot), (2, .ref (B + 518)), (1, .ref B), (0, .ref 0)] [.int (nI (f + u)), .ref (B + 518)] h1 _
      refine mi_blk okL_law_4 1 (pc' := 376) (lv' := [(11, .long m), (10, .int 0), (9, .int (nI t)), (8, .int x), (7, .int (nI k)), (6, .int lf), (4, .double q.2.2.2.2.1.2.1), (3, .int rot), (2, .ref (B + 518)), (1, .ref B), (0, .ref 0)]) (st' := [.long m, .int (nI (f + u)), .ref (B + 518)]) rfl ?_
      have hL1 := hL.go hx
      refine mi_last okL_law_4 (t := 1) (n := 240) (f := to) (i := nI (f + u)) (x := m) rfl rfl (show 6 ≤ B + 518 by have := hw.z; omega) (by have := hL1.2.2; omega) hL1.2.1 (vp_in_lt (by omega) (by decide)) ?_
      rw [nI_clamp (by omega)]
      change mi_W pP X kL_law 7 0 0 377 [(11, .long m), (10, .int 0), (9, .int (nI t)), (8, .int x), (7, .int (nI k)), (6, .int lf), (4, .double q.2.2.2.2.1.2.1), (3, .int rot), (2, .ref (B + 518)), (1, .ref B), (0, .ref 0)] [] (mi_set h1 (B + 518) (.inl (1, 240, .inr (.inl (va_up to (f + u) m))))) _
      exact mi_WX.locs (by simp) (kk _ _ _ _ ⟨hL1.1.out (Nat.le_refl _) _, mi_set_self, hL1.2.2⟩ (hI.write ht e (Or.inr rfl) h3 h4 hu hm 1) (Int.le_refl _) (Int32.le_refl _))
