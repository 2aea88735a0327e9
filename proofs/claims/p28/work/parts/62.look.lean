theorem lg_cmp_self (x : Int64) : lg_cmp x x = 0 := by
  unfold lg_cmp
  rw [if_neg (fun z => by have := Int64.lt_iff_toInt_lt.mp z; omega), if_pos rfl]
set_option maxHeartbeats 4000000 in
set_option maxRecDepth 100000 in
theorem w_see_0_r_2 {X : mi_X} (hX1 : mi_X1 X) {B : Nat} {q : ph_T} {to : Nat → Int64} {rot : Int32} {h : mi_H} (hL : LH B q to h) (hI : LI 80 q to rot) {s : Nat} (hs : s < 240) (hwr : (q.2.1 s).1 = 0) (hst : (q.2.1 s).2.2.2.1 = 2) {Q : Option Value → mi_H → Prop} (kk : ∀ (q' : ph_T) (h' : mi_H), LH B q' to h' → LI 80 q' to rot → q'.2.1 = q.2.1 → mi_W pP X kL_law 7 0 0 424 [(8, .int (nI (s + 1))), (7, .int (wr_n q.2.1 (s + 1))), (3, .int rot), (2, .ref (B + 518)), (1, .ref B), (0, .ref 0)] [] h' Q) : mi_W pP X kL_law 7 0 0 432 [(8, .int (nI s)), (7, .int (wr_n q.2.1 s)), (3, .int rot), (2, .ref (B + 518)), (1, .ref B), (0, .ref 0)] [] h Q := by
  have hw := hL.1
  refine mi_blk okL_law_5 3 (pc' := 436) (lv' := [(8, .int (nI s)), (7, .int (wr_n q.2.1 s)), (3, .int rot), (2, .ref (B + 518)), (1, .ref B), (0, .ref 0)]) (st' := [.int 3, .int (nI s), .ref B]) rfl ?_
  refine mi_callV okL_law_5 (mc := 0) (ms := 0) (mc' := 0) (ms' := 0) (b := B) (As := [.int (nI s), .int 3]) (st := []) rfl cv_RL_66 rfl (by decide) (show 6 ≤ _ by have := hw.z; omega) (show _ < h.1 by have := hw.z; omega) hw.ph rfl (Nat.le_of_ble_eq_true rfl) (show mi_S pP X kX8_ofSector 3 [.ref B, .int (nI s), .int 3] h 0 0 (fun r h1 => r = some (.int 2) ∧ h1 = h) by have z := c_ofSector_3 (X := X) hw hs; rw [hst] at z; exact z) (fun r h1 q9 => ?_)
  obtain ⟨rfl, e9⟩ := q9; have e9 := e9.symm; subst e9
  change mi_W pP X kL_law 7 0 0 439 [(8, .int (nI s)), (7, .int (wr_n q.2.1 s)), (3, .int rot), (2, .ref (B + 518)), (1, .ref B), (0, .ref 0)] [.int 2] h _
  refine mi_blk okL_law_5 4 (pc' := 445) (lv' := [(9, .int 2), (8, .int (nI s)), (7, .int (wr_n q.2.1 s)), (3, .int rot), (2, .ref (B + 518)), (1, .ref B), (0, .ref 0)]) (st' := [.int 1, .int (nI s), .ref B]) rfl ?_
  refine mi_callV okL_law_5 (mc := 0) (ms := 0) (mc' := 0) (ms' := 0) (b := B) (As := [.int (nI s), .int 1]) (st := []) rfl cv_RL_66 rfl (by decide) (show 6 ≤ _ by have := hw.z; omega) (show _ < h.1 by have := hw.z; omega) hw.ph rfl (Nat.le_of_ble_eq_true rfl) (show mi_S pP X kX8_ofSector 3 [.ref B, .int (nI s), .int 1] h 0 0 (fun r h1 => r = some (.int 0) ∧ h1 = h) by have z := c_ofSector_1 (X := X) hw hs; rw [if_pos hwr] at z; exact z) (fun r h1 q9 => ?_)
  obtain ⟨rfl, e9⟩ := q9; have e9 := e9.symm; subst e9
  change mi_W pP X kL_law 7 0 0 448 [(9, .int 2), (8, .int (nI s)), (7, .int (wr_n q.2.1 s)), (3, .int rot), (2, .ref (B + 518)), (1, .ref B), (0, .ref 0)] [.int 0] h _
  refine mi_blk okL_law_5 1 (pc' := 449) (lv' := [(9, .int 2), (8, .int (nI s)), (7, .int (wr_n q.2.1 s)), (3, .int rot), (2, .ref (B + 518)), (1, .ref B), (0, .ref 0)]) (st' := [.int 1, .int 0]) rfl ?_
  refine mi_ic_ne okL_law_5 rfl rfl (fun c_449 => ?_) (fun c_449 => absurd c_449 (by decide))
  refine mi_blk okL_law_5 4 (pc' := 463) (lv' := [(10, .int 0), (9, .int 2), (8, .int (nI s)), (7, .int (wr_n q.2.1 s)), (3, .int rot), (2, .ref (B + 518)), (1, .ref B), (0, .ref 0)]) (st' := [.int 0, .int (wr_n q.2.1 s)]) rfl ?_
  refine mi_if_eq okL_law_5 rfl rfl (fun c_463 => ?_) (fun c_463 => absurd (by decide) c_463)
  refine mi_blk okL_law_5 4 (pc' := 476) (lv' := [(7, .int ((wr_n q.2.1 s) + 0)), (10, .int 0), (9, .int 2), (8, .int (nI s)), (3, .int rot), (2, .ref (B + 518)), (1, .ref B), (0, .ref 0)]) (st' := [.int 0]) rfl ?_
  refine mi_if_eq okL_law_5 rfl rfl (fun c_476 => ?_) (fun c_476 => absurd (by decide) c_476)
  refine mi_blk okL_law_5 1 (pc' := 491) (lv' := [(7, .int ((wr_n q.2.1 s) + 0)), (10, .int 0), (9, .int 2), (8, .int (nI s)), (3, .int rot), (2, .ref (B + 518)), (1, .ref B), (0, .ref 0)]) (st' := [.int 0]) rfl ?_
  refine mi_if_ne okL_law_5 rfl rfl (fun c_491 => absurd (by decide) c_491) (fun c_491 => ?_)
  refine mi_blk okL_law_5 2 (pc' := 497) (lv' := [(7, .int ((wr_n q.2.1 s) + 0)), (10, .int 0), (9, .int 2), (8, .int (nI s)), (3, .int rot), (2, .ref (B + 518)), (1, .ref B), (0, .ref 0)]) (st' := [.int 2, .int 2]) rfl ?_
  refine mi_ic_eq okL_law_5 rfl rfl (fun c_497 => ?_) (fun c_497 => absurd (by decide) c_497)
  refine mi_blk okL_law_6 1 (pc' := 504) (lv' := [(7, .int ((wr_n q.2.1 s) + 0)), (10, .int 0), (9, .int 2), (8, .int (nI s)), (3, .int rot), (2, .ref (B + 518)), (1, .ref B), (0, .ref 0)]) (st' := [.int 0]) rfl ?_
  refine mi_if_eq okL_law_6 rfl rfl (fun c_504 => ?_) (fun c_504 => absurd (by decide) c_504)
  refine mi_blk okL_law_6 1 (pc' := 519) (lv' := [(7, .int ((wr_n q.2.1 s) + 0)), (10, .int 0), (9, .int 2), (8, .int (nI s)), (3, .int rot), (2, .ref (B + 518)), (1, .ref B), (0, .ref 0)]) (st' := [.int 0]) rfl ?_
  refine mi_if_eq okL_law_6 rfl rfl (fun c_519 => ?_) (fun c_519 => absurd (by decide) c_519)
  refine mi_blk okL_law_6 1 (pc' := 550) (lv' := [(7, .int ((wr_n q.2.1 s) + 0)), (10, .int 0), (9, .int 2), (8, .int (nI s)), (3, .int rot), (2, .ref (B + 518)), (1, .ref B), (0, .ref 0)]) (st' := [.int 0]) rfl ?_
  refine mi_if_eq okL_law_6 rfl rfl (fun c_550 => ?_) (fun c_550 => absurd (by decide) c_550)
  refine mi_blk okL_law_7 1 (pc' := 591) (lv' := [(7, .int ((wr_n q.2.1 s) + 0)), (10, .int 0), (9, .int 2), (8, .int (nI s)), (3, .int rot), (2, .ref (B + 518)), (1, .ref B), (0, .ref 0)]) (st' := [.int 2]) rfl ?_
  refine mi_if_ne okL_law_7 rfl rfl (fun c_591 => ?_) (fun c_591 => absurd c_591 (by decide))
  refine mi_blk okL_law_7 2 (pc' := 424) (lv' := [(8, .int ((nI s) + 1)), (7, .int ((wr_n q.2.1 s) + 0)), (10, .int 0), (9, .int 2), (3, .int rot), (2, .ref (B + 518)), (1, .ref B), (0, .ref 0)]) (st' := []) rfl ?_
  rw [← nI_succ]
  have ew : wr_n q.2.1 (s + 1) = wr_n q.2.1 s := if_pos hwr
  exact mi_WX.locs (by rw [ew]; simp) (kk _ _ hL hI rfl)
set_option maxHeartbeats 4000000 in
set_option maxRecDepth 100000 in
theorem w_see_1_0_0 {X : mi_X} (hX1 : mi_X1 X) {B : Nat} {q : ph_T} {to : Nat → Int64} {h : mi_H} (hL : LH B q to h) (hI : LI 80 q to 0) {s : Nat} (hs : s < 240) (hwr : ¬ (q.2.1 s).1 = 0) (hst : (q.2.1 s).2.2.2.1 = 0) (hgd : (q.2.1 s).2.2.2.2.1 = to s) {Q : Option Value → mi_H → Prop} (kk : ∀ (q' : ph_T) (h' : mi_H), LH B q' to h' → LI 80 q' to 0 → q'.2.1 = q.2.1 → mi_W pP X kL_law 7 0 0 424 [(8, .int (nI (s + 1))), (7, .int (wr_n q.2.1 (s + 1))), (3, .int 0), (2, .ref (B + 518)), (1, .ref B), (0, .ref 0)] [] h' Q) : mi_W pP X kL_law 7 0 0 432 [(8, .int (nI s)), (7, .int (wr_n q.2.1 s)), (3, .int 0), (2, .ref (B + 518)), (1, .ref B), (0, .ref 0)] [] h Q := by
  have hw := hL.1
  refine mi_blk okL_law_5 3 (pc' := 436) (lv' := [(8, .int (nI s)), (7, .int (wr_n q.2.1 s)), (3, .int 0), (2, .ref (B + 518)), (1, .ref B), (0, .ref 0)]) (st' := [.int 3, .int (nI s), .ref B]) rfl ?_
  refine mi_callV okL_law_5 (mc := 0) (ms := 0) (mc' := 0) (ms' := 0) (b := B) (As := [.int (nI s), .int 3]) (st := []) rfl cv_RL_66 rfl (by decide) (show 6 ≤ _ by have := hw.z; omega) (show _ < h.1 by have := hw.z; omega) hw.ph rfl (Nat.le_of_ble_eq_true rfl) (show mi_S pP X kX8_ofSector 3 [.ref B, .int (nI s), .int 3] h 0 0 (fun r h1 => r = some (.int 0) ∧ h1 = h) by have z := c_ofSector_3 (X := X) hw hs; rw [hst] at z; exact z) (fun r h1 q9 => ?_)
  obtain ⟨rfl, e9⟩ := q9; have e9 := e9.symm; subst e9
  change mi_W pP X kL_law 7 0 0 439 [(8, .int (nI s)), (7, .int (wr_n q.2.1 s)), (3, .int 0), (2, .ref (B + 518)), (1, .ref B), (0, .ref 0)] [.int 0] h _
  refine mi_blk okL_law_5 4 (pc' := 445) (lv' := [(9, .int 0), (8, .int (nI s)), (7, .int (wr_n q.2.1 s)), (3, .int 0), (2, .ref (B + 518)), (1, .ref B), (0, .ref 0)]) (st' := [.int 1, .int (nI s), .ref B]) rfl ?_
  refine mi_callV okL_law_5 (mc := 0) (ms := 0) (mc' := 0) (ms' := 0) (b := B) (As := [.int (nI s), .int 1]) (st := []) rfl cv_RL_66 rfl (by decide) (show 6 ≤ _ by have := hw.z; omega) (show _ < h.1 by have := hw.z; omega) hw.ph rfl (Nat.le_of_ble_eq_true rfl) (show mi_S pP X kX8_ofSector 3 [.ref B, .int (nI s), .int 1] h 0 0 (fun r h1 => r = some (.int 1) ∧ h1 = h) by have z := c_ofSector_1 (X := X) hw hs; rw [if_neg hwr] at z; exact z) (fun r h1 q9 => ?_)
  obtain ⟨rfl, e9⟩ := q9; have e9 := e9.symm; subst e9
  change mi_W pP X kL_law 7 0 0 448 [(9, .int 0), (8, .int (nI s)), (7, .int (wr_n q.2.1 s)), (3, .int 0), (2, .ref (B + 518)), (1, .ref B), (0, .ref 0)] [.int 1] h _
  refine mi_blk okL_law_5 1 (pc' := 449) (lv' := [(9, .int 0), (8, .int (nI s)), (7, .int (wr_n q.2.1 s)), (3, .int 0), (2, .ref (B + 518)), (1, .ref B), (0, .ref 0)]) (st' := [.int 1, .int 1]) rfl ?_
  refine mi_ic_ne okL_law_5 rfl rfl (fun c_449 => absurd (by decide) c_449) (fun c_449 => ?_)
  refine mi_blk okL_law_5 5 (pc' := 463) (lv' := [(10, .int 1), (9, .int 0), (8, .int (nI s)), (7, .int (wr_n q.2.1 s)), (3, .int 0), (2, .ref (B + 518)), (1, .ref B), (0, .ref 0)]) (st' := [.int 1, .int (wr_n q.2.1 s)]) rfl ?_
  refine mi_if_eq okL_law_5 rfl rfl (fun c_463 => absurd c_463 (by decide)) (fun c_463 => ?_)
  refine mi_blk okL_law_5 5 (pc' := 476) (lv' := [(7, .int ((wr_n q.2.1 s) + 1)), (10, .int 1), (9, .int 0), (8, .int (nI s)), (3, .int 0), (2, .ref (B + 518)), (1, .ref B), (0, .ref 0)]) (st' := [.int 1]) rfl ?_
  refine mi_if_eq okL_law_5 rfl rfl (fun c_476 => absurd c_476 (by decide)) (fun c_476 => ?_)
  refine mi_blk okL_law_5 3 (pc' := 483) (lv' := [(7, .int ((wr_n q.2.1 s) + 1)), (10, .int 1), (9, .int 0), (8, .int (nI s)), (3, .int 0), (2, .ref (B + 518)), (1, .ref B), (0, .ref 0)]) (st' := [.int 0, .int (nI s), .ref B]) rfl ?_
  refine mi_callV okL_law_5 (mc := 0) (ms := 0) (mc' := 0) (ms' := 0) (b := B) (As := [.int (nI s), .int 0]) (st := []) rfl cv_RL_66 rfl (by decide) (show 6 ≤ _ by have := hw.z; omega) (show _ < h.1 by have := hw.z; omega) hw.ph rfl (Nat.le_of_ble_eq_true rfl) (c_ofSector_0 hw hs (n := 3) (by decide) (by obtain ⟨⟨nx, c, e1, -⟩, -⟩ := hI; rw [e1]; rfl)) (fun r h1 q9 => ?_)
  obtain ⟨rfl, e9⟩ := q9; have e9 := e9.symm; subst e9
  change mi_W pP X kL_law 7 0 0 486 [(7, .int ((wr_n q.2.1 s) + 1)), (10, .int 1), (9, .int 0), (8, .int (nI s)), (3, .int 0), (2, .ref (B + 518)), (1, .ref B), (0, .ref 0)] [.int (ph_tof q.2.2.2.1 (nI s) 0 3)] h _
  refine mi_if_lt okL_law_5 rfl rfl (fun c_486 => absurd c_486 (tof_pos hI.2.1 hI.2.2.1 hs hwr)) (fun c_486 => ?_)
  refine mi_blk okL_law_5 1 (pc' := 491) (lv' := [(7, .int ((wr_n q.2.1 s) + 1)), (10, .int 1), (9, .int 0), (8, .int (nI s)), (3, .int 0), (2, .ref (B + 518)), (1, .ref B), (0, .ref 0)]) (st' := [.int 1]) rfl ?_
  refine mi_if_ne okL_law_5 rfl rfl (fun c_491 => ?_) (fun c_491 => absurd c_491 (by decide))
  refine mi_blk okL_law_6 1 (pc' := 504) (lv' := [(7, .int ((wr_n q.2.1 s) + 1)), (10, .int 1), (9, .int 0), (8, .int (nI s)), (3, .int 0), (2, .ref (B + 518)), (1, .ref B), (0, .ref 0)]) (st' := [.int 1]) rfl ?_
  refine mi_if_eq okL_law_6 rfl rfl (fun c_504 => absurd c_504 (by decide)) (fun c_504 => ?_)
  refine mi_blk okL_law_6 1 (pc' := 508) (lv' := [(7, .int ((wr_n q.2.1 s) + 1)), (10, .int 1), (9, .int 0), (8, .int (nI s)), (3, .int 0), (2, .ref (B + 518)), (1, .ref B), (0, .ref 0)]) (st' := [.int 0]) rfl ?_
  refine mi_if_ne okL_law_6 rfl rfl (fun c_508 => absurd (by decide) c_508) (fun c_508 => ?_)
  refine mi_blk okL_law_6 2 (pc' := 514) (lv' := [(7, .int ((wr_n q.2.1 s) + 1)), (10, .int 1), (9, .int 0), (8, .int (nI s)), (3, .int 0), (2, .ref (B + 518)), (1, .ref B), (0, .ref 0)]) (st' := [.int 1, .int 0]) rfl ?_
  refine mi_ic_eq okL_law_6 rfl rfl (fun c_514 => absurd c_514 (by decide)) (fun c_514 => ?_)
  refine mi_blk okL_law_6 1 (pc' := 519) (lv' := [(7, .int ((wr_n q.2.1 s) + 1)), (10, .int 1), (9, .int 0), (8, .int (nI s)), (3, .int 0), (2, .ref (B + 518)), (1, .ref B), (0, .ref 0)]) (st' := [.int 1]) rfl ?_
  refine mi_if_eq okL_law_6 rfl rfl (fun c_519 => absurd c_519 (by decide)) (fun c_519 => ?_)
  refine mi_blk okL_law_6 1 (pc' := 524) (lv' := [(7, .int ((wr_n q.2.1 s) + 1)), (10, .int 1), (9, .int 0), (8, .int (nI s)), (3, .int 0), (2, .ref (B + 518)), (1, .ref B), (0, .ref 0)]) (st' := [.int 0]) rfl ?_
  refine mi_if_ne okL_law_6 rfl rfl (fun c_524 => absurd (by decide) c_524) (fun c_524 => ?_)
  refine mi_blk okL_law_6 1 (pc' := 528) (lv' := [(7, .int ((wr_n q.2.1 s) + 1)), (10, .int 1), (9, .int 0), (8, .int (nI s)), (3, .int 0), (2, .ref (B + 518)), (1, .ref B), (0, .ref 0)]) (st' := [.int 0]) rfl ?_
  refine mi_if_ne okL_law_6 rfl rfl (fun c_528 => absurd (by decide) c_528) (fun c_528 => ?_)
  refine mi_blk okL_law_6 3 (pc' := 535) (lv' := [(7, .int ((wr_n q.2.1 s) + 1)), (10, .int 1), (9, .int 0), (8, .int (nI s)), (3, .int 0), (2, .ref (B + 518)), (1, .ref B), (0, .ref 0)]) (st' := [.int 1, .int (nI s), .ref B]) rfl ?_
  refine mi_callV okL_law_6 (mc := 0) (ms := 0) (mc' := 0) (ms' := 0) (b := B) (As := [.int (nI s), .int 1]) (st := []) rfl cv_RL_69 rfl (by decide) (show 6 ≤ _ by have := hw.z; omega) (show _ < h.1 by have := hw.z; omega) hw.ph rfl (Nat.le_of_ble_eq_true rfl) (c_nibbles_1 hw hs) (fun r h1 q9 => ?_)
  obtain ⟨rfl, e9⟩ := q9; have e9 := e9.symm; subst e9
  change mi_W pP X kL_law 7 0 0 538 [(7, .int ((wr_n q.2.1 s) + 1)), (10, .int 1), (9, .int 0), (8, .int (nI s)), (3, .int 0), (2, .ref (B + 518)), (1, .ref B), (0, .ref 0)] [.long ((q.2.1 s).2.2.2.2.1)] h _
  refine mi_blk okL_law_6 2 (pc' := 541) (lv' := [(7, .int ((wr_n q.2.1 s) + 1)), (10, .int 1), (9, .int 0), (8, .int (nI s)), (3, .int 0), (2, .ref (B + 518)), (1, .ref B), (0, .ref 0)]) (st' := [.int (nI s), .ref (B + 518), .long ((q.2.1 s).2.2.2.2.1)]) rfl ?_
  refine mi_lald okL_law_6 (t := 1) (n := 240) (f := to) (i := nI s) rfl rfl (show 6 ≤ B + 518 by have := hw.z; omega) (by have := hL.2.2; omega) hL.2.1 (vp_in_lt hs (by decide)) ?_
  rw [nI_clamp (by omega)]
  refine mi_blk okL_law_6 1 (pc' := 543) (lv' := [(7, .int ((wr_n q.2.1 s) + 1)), (10, .int 1), (9, .int 0), (8, .int (nI s)), (3, .int 0), (2, .ref (B + 518)), (1, .ref B), (0, .ref 0)]) (st' := [.int (lg_cmp ((q.2.1 s).2.2.2.2.1) (to s))]) rfl ?_
  refine mi_if_eq okL_law_6 rfl rfl (fun c_543 => ?_) (fun c_543 => absurd (by rw [hgd, lg_cmp_self]) c_543)
  refine mi_blk okL_law_6 1 (pc' := 550) (lv' := [(7, .int ((wr_n q.2.1 s) + 1)), (10, .int 1), (9, .int 0), (8, .int (nI s)), (3, .int 0), (2, .ref (B + 518)), (1, .ref B), (0, .ref 0)]) (st' := [.int 1]) rfl ?_
  refine mi_if_eq okL_law_6 rfl rfl (fun c_550 => absurd c_550 (by decide)) (fun c_550 => ?_)
  refine mi_blk okL_law_6 3 (pc' := 557) (lv' := [(7, .int ((wr_n q.2.1 s) + 1)), (10, .int 1), (9, .int 0), (8, .int (nI s)), (3, .int 0), (2, .ref (B + 518)), (1, .ref B), (0, .ref 0)]) (st' := [.int 4, .int (nI s), .ref B]) rfl ?_
  refine mi_callV okL_law_6 (mc := 0) (ms := 0) (mc' := 0) (ms' := 0) (b := B) (As := [.int (nI s), .int 4]) (st := []) rfl cv_RL_66 rfl (by decide) (show 6 ≤ _ by have := hw.z; omega) (show _ < h.1 by have := hw.z; omega) hw.ph rfl (Nat.le_of_ble_eq_true rfl) (c_ofSector_4 hw hs) (fun r h1 q9 => ?_)
  obtain ⟨rfl, e9⟩ := q9; have e9 := e9.symm; subst e9
  change mi_W pP X kL_law 7 0 0 560 [(7, .int ((wr_n q.2.1 s) + 1)), (10, .int 1), (9, .int 0), (8, .int (nI s)), (3, .int 0), (2, .ref (B + 518)), (1, .ref B), (0, .ref 0)] [.int ((q.2.1 s).2.2.2.2.2.1)] h _
  refine mi_blk okL_law_6 1 (pc' := 563) (lv' := [(7, .int ((wr_n q.2.1 s) + 1)), (10, .int 1), (9, .int 0), (8, .int (nI s)), (3, .int 0), (2, .ref (B + 518)), (1, .ref B), (0, .ref 0)]) (st' := [.int 128, .int ((q.2.1 s).2.2.2.2.2.1)]) rfl ?_
  refine mi_ic_gt okL_law_6 rfl rfl (fun c_563 => absurd c_563 (mi_le_nlt (sc_marks (hI.2.2.2.2.1 s hs) hwr).1)) (fun c_563 => ?_)
  refine mi_blk okL_law_6 3 (pc' := 570) (lv' := [(7, .int ((wr_n q.2.1 s) + 1)), (10, .int 1), (9, .int 0), (8, .int (nI s)), (3, .int 0), (2, .ref (B + 518)), (1, .ref B), (0, .ref 0)]) (st' := [.int 5, .int (nI s), .ref B]) rfl ?_
  refine mi_callV okL_law_6 (mc := 0) (ms := 0) (mc' := 0) (ms' := 0) (b := B) (As := [.int (nI s), .int 5]) (st := []) rfl cv_RL_66 rfl (by decide) (show 6 ≤ _ by have := hw.z; omega) (show _ < h.1 by have := hw.z; omega) hw.ph rfl (Nat.le_of_ble_eq_true rfl) (c_ofSector_5 hw hs) (fun r h1 q9 => ?_)
  obtain ⟨rfl, e9⟩ := q9; have e9 := e9.symm; subst e9
  change mi_W pP X kL_law 7 0 0 573 [(7, .int ((wr_n q.2.1 s) + 1)), (10, .int 1), (9, .int 0), (8, .int (nI s)), (3, .int 0), (2, .ref (B + 518)), (1, .ref B), (0, .ref 0)] [.int ((q.2.1 s).2.2.2.2.2.2.1)] h _
  refine mi_abs okL_law_6 rfl mm_RL_72 ms_abs mz_Math mc_abs (by decide) (Nat.le_of_ble_eq_true rfl) ?_
  refine mi_blk okL_law_6 1 (pc' := 577) (lv' := [(7, .int ((wr_n q.2.1 s) + 1)), (10, .int 1), (9, .int 0), (8, .int (nI s)), (3, .int 0), (2, .ref (B + 518)), (1, .ref B), (0, .ref 0)]) (st' := [.ref B, .int (if 0 ≤ (q.2.1 s).2.2.2.2.2.2.1 then (q.2.1 s).2.2.2.2.2.2.1 else 0 - ((q.2.1 s).2.2.2.2.2.2.1))]) rfl ?_
  refine mi_blk okL_law_7 1 (pc' := 579) (lv' := [(7, .int ((wr_n q.2.1 s) + 1)), (10, .int 1), (9, .int 0), (8, .int (nI s)), (3, .int 0), (2, .ref (B + 518)), (1, .ref B), (0, .ref 0)]) (st' := [.int (nI s), .ref B, .int (if 0 ≤ (q.2.1 s).2.2.2.2.2.2.1 then (q.2.1 s).2.2.2.2.2.2.1 else 0 - ((q.2.1 s).2.2.2.2.2.2.1))]) rfl ?_
  refine mi_blk okL_law_7 1 (pc' := 581) (lv' := [(7, .int ((wr_n q.2.1 s) + 1)), (10, .int 1), (9, .int 0), (8, .int (nI s)), (3, .int 0), (2, .ref (B + 518)), (1, .ref B), (0, .ref 0)]) (st' := [.int 6, .int (nI s), .ref B, .int (if 0 ≤ (q.2.1 s).2.2.2.2.2.2.1 then (q.2.1 s).2.2.2.2.2.2.1 else 0 - ((q.2.1 s).2.2.2.2.2.2.1))]) rfl ?_
  refine mi_callV okL_law_7 (mc := 0) (ms := 0) (mc' := 0) (ms' := 0) (b := B) (As := [.int (nI s), .int 6]) (st := [.int (if 0 ≤ (q.2.1 s).2.2.2.2.2.2.1 then (q.2.1 s).2.2.2.2.2.2.1 else 0 - ((q.2.1 s).2.2.2.2.2.2.1))]) rfl cv_RL_66 rfl (by decide) (show 6 ≤ _ by have := hw.z; omega) (show _ < h.1 by have := hw.z; omega) hw.ph rfl (Nat.le_of_ble_eq_true rfl) (c_ofSector_6 hw hs) (fun r h1 q9 => ?_)
  obtain ⟨rfl, e9⟩ := q9; have e9 := e9.symm; subst e9
  change mi_W pP X kL_law 7 0 0 584 [(7, .int ((wr_n q.2.1 s) + 1)), (10, .int 1), (9, .int 0), (8, .int (nI s)), (3, .int 0), (2, .ref (B + 518)), (1, .ref B), (0, .ref 0)] [.int ((q.2.1 s).2.2.2.2.2.2.2), .int (if 0 ≤ (q.2.1 s).2.2.2.2.2.2.1 then (q.2.1 s).2.2.2.2.2.2.1 else 0 - ((q.2.1 s).2.2.2.2.2.2.1))] h _
  refine mi_ic_le okL_law_7 rfl rfl (fun c_584 => ?_) (fun c_584 => absurd (sc_marks (hI.2.2.2.2.1 s hs) hwr).2 c_584)
  refine mi_blk okL_law_7 1 (pc' := 591) (lv' := [(7, .int ((wr_n q.2.1 s) + 1)), (10, .int 1), (9, .int 0), (8, .int (nI s)), (3, .int 0), (2, .ref (B + 518)), (1, .ref B), (0, .ref 0)]) (st' := [.int 0]) rfl ?_
  refine mi_if_ne okL_law_7 rfl rfl (fun c_591 => absurd (by decide) c_591) (fun c_591 => ?_)
  refine mi_blk okL_law_7 3 (pc' := 598) (lv' := [(7, .int ((wr_n q.2.1 s) + 1)), (10, .int 1), (9, .int 0), (8, .int (nI s)), (3, .int 0), (2, .ref (B + 518)), (1, .ref B), (0, .ref 0)]) (st' := [.int 0, .int (nI s), .ref B]) rfl ?_
  refine mi_callV okL_law_7 (mc := 0) (ms := 0) (mc' := 0) (ms' := 0) (b := B) (As := [.int (nI s), .int 0]) (st := []) rfl cv_RL_77 rfl (by decide) (show 6 ≤ _ by have := hw.z; omega) (show _ < h.1 by have := hw.z; omega) hw.ph rfl (Nat.le_of_ble_eq_true rfl) (c_wouldMend hX1 hw hs (t := 0) (by decide) (by decide)) (fun r h1 q9 => ?_)
  obtain ⟨rfl, e9⟩ := q9; have e9 := e9.symm; subst e9
  change mi_W pP X kL_law 7 0 0 601 [(7, .int ((wr_n q.2.1 s) + 1)), (10, .int 1), (9, .int 0), (8, .int (nI s)), (3, .int 0), (2, .ref (B + 518)), (1, .ref B), (0, .ref 0)] [.int (se_jd (nI s) (q.2.1 s).1 (q.2.1 s).2.1 (q.2.1 s).2.2.1 (bl_mend (bl_clr ((q.2.2.1 s).2 ||| 0) (q.2.2.1 s).1 16) ((q.2.2.1 s).2 ||| 0)).1 (bl_mend (bl_clr ((q.2.2.1 s).2 ||| 0) (q.2.2.1 s).1 16) ((q.2.2.1 s).2 ||| 0)).2)] (mi_set h (B + 28) (bl_c (bl_mend (bl_clr ((q.2.2.1 s).2 ||| 0) (q.2.2.1 s).1 16) ((q.2.2.1 s).2 ||| 0)).1 (bl_mend (bl_clr ((q.2.2.1 s).2 ||| 0) (q.2.2.1 s).1 16) ((q.2.2.1 s).2 ||| 0)).2)) _
  refine mi_if_eq okL_law_7 rfl rfl (fun c_601 => ?_) (fun c_601 => absurd (by rw [sc_would (hI.2.2.2.2.1 s hs) hwr, hst]) c_601)
  refine mi_blk okL_law_7 2 (pc' := 424) (lv' := [(8, .int ((nI s) + 1)), (7, .int ((wr_n q.2.1 s) + 1)), (10, .int 1), (9, .int 0), (3, .int 0), (2, .ref (B + 518)), (1, .ref B), (0, .ref 0)]) (st' := []) rfl ?_
  rw [← nI_succ]
  have ew : wr_n q.2.1 (s + 1) = wr_n q.2.1 s + 1 := if_neg hwr
  exact mi_WX.locs (by rw [ew]; simp) (kk _ _ (hL.go ((ph_X.rf hw).set_cp _ _)) hI rfl)
set_option maxHeartbeats 4000000 in
set_option maxRecDepth 100000 in
theorem w_see_1_0_2 {X : mi_X} (hX1 : mi_X1 X) {B : Nat} {q : ph_T} {to : Nat → Int64} {h : mi_H} (hL : LH B q to h) (hI : LI 80 q to 0) {s : Nat} (hs : s < 240) (hwr : ¬ (q.2.1 s).1 = 0) (hst : (q.2.1 s).2.2.2.1 = 2) {Q : Option Value → mi_H → Prop} (kk : ∀ (q' : ph_T) (h' : mi_H), LH B q' to h' → LI 80 q' to 0 → q'.2.1 = q.2.1 → mi_W pP X kL_law 7 0 0 424 [(8, .int (nI (s + 1))), (7, .int (wr_n q.2.1 (s + 1))), (3, .int 0), (2, .ref (B + 518)), (1, .ref B), (0, .ref 0)] [] h' Q) : mi_W pP X kL_law 7 0 0 432 [(8, .int (nI s)), (7, .int (wr_n q.2.1 s)), (3, .int 0), (2, .ref (B + 518)), (1, .ref B), (0, .ref 0)] [] h Q := by
  have hw := hL.1
  refine mi_blk okL_law_5 3 (pc' := 436) (lv' := [(8, .int (nI s)), (7, .int (wr_n q.2.1 s)), (3, .int 0), (2, .ref (B + 518)), (1, .ref B), (0, .ref 0)]) (st' := [.int 3, .int (nI s), .ref B]) rfl ?_
  refine mi_callV okL_law_5 (mc := 0) (ms := 0) (mc' := 0) (ms' := 0) (b := B) (As := [.int (nI s), .int 3]) (st := []) rfl cv_RL_66 rfl (by decide) (show 6 ≤ _ by have := hw.z; omega) (show _ < h.1 by have := hw.z; omega) hw.ph rfl (Nat.le_of_ble_eq_true rfl) (show mi_S pP X kX8_ofSector 3 [.ref B, .int (nI s), .int 3] h 0 0 (fun r h1 => r = some (.int 2) ∧ h1 = h) by have z := c_ofSector_3 (X := X) hw hs; rw [hst] at z; exact z) (fun r h1 q9 => ?_)
  obtain ⟨rfl, e9⟩ := q9; have e9 := e9.symm; subst e9
  change mi_W pP X kL_law 7 0 0 439 [(8, .int (nI s)), (7, .int (wr_n q.2.1 s)), (3, .int 0), (2, .ref (B + 518)), (1, .ref B), (0, .ref 0)] [.int 2] h _
  refine mi_blk okL_law_5 4 (pc' := 445) (lv' := [(9, .int 2), (8, .int (nI s)), (7, .int (wr_n q.2.1 s)), (3, .int 0), (2, .ref (B + 518)), (1, .ref B), (0, .ref 0)]) (st' := [.int 1, .int (nI s), .ref B]) rfl ?_
  refine mi_callV okL_law_5 (mc := 0) (ms := 0) (mc' := 0) (ms' := 0) (b := B) (As := [.int (nI s), .int 1]) (st := []) rfl cv_RL_66 rfl (by decide) (show 6 ≤ _ by have := hw.z; omega) (show _ < h.1 by have := hw.z; omega) hw.ph rfl (Nat.le_of_ble_eq_true rfl) (show mi_S pP X kX8_ofSector 3 [.ref B, .int (nI s), .int 1] h 0 0 (fun r h1 => r = some (.int 1) ∧ h1 = h) by have z := c_ofSector_1 (X := X) hw hs; rw [if_neg hwr] at z; exact z) (fun r h1 q9 => ?_)
  obtain ⟨rfl, e9⟩ := q9; have e9 := e9.symm; subst e9
  change mi_W pP X kL_law 7 0 0 448 [(9, .int 2), (8, .int (nI s)), (7, .int (wr_n q.2.1 s)), (3, .int 0), (2, .ref (B + 518)), (1, .ref B), (0, .ref 0)] [.int 1] h _
  refine mi_blk okL_law_5 1 (pc' := 449) (lv' := [(9, .int 2), (8, .int (nI s)), (7, .int (wr_n q.2.1 s)), (3, .int 0), (2, .ref (B + 518)), (1, .ref B), (0, .ref 0)]) (st' := [.int 1, .int 1]) rfl ?_
  refine mi_ic_ne okL_law_5 rfl rfl (fun c_449 => absurd (by decide) c_449) (fun c_449 => ?_)
  refine mi_blk okL_law_5 5 (pc' := 463) (lv' := [(10, .int 1), (9, .int 2), (8, .int (nI s)), (7, .int (wr_n q.2.1 s)), (3, .int 0), (2, .ref (B + 518)), (1, .ref B), (0, .ref 0)]) (st' := [.int 1, .int (wr_n q.2.1 s)]) rfl ?_
  refine mi_if_eq okL_law_5 rfl rfl (fun c_463 => absurd c_463 (by decide)) (fun c_463 => ?_)
  refine mi_blk okL_law_5 5 (pc' := 476) (lv' := [(7, .int ((wr_n q.2.1 s) + 1)), (10, .int 1), (9, .int 2), (8, .int (nI s)), (3, .int 0), (2, .ref (B + 518)), (1, .ref B), (0, .ref 0)]) (st' := [.int 1]) rfl ?_
  refine mi_if_eq okL_law_5 rfl rfl (fun c_476 => absurd c_476 (by decide)) (fun c_476 => ?_)
  refine mi_blk okL_law_5 3 (pc' := 483) (lv' := [(7, .int ((wr_n q.2.1 s) + 1)), (10, .int 1), (9, .int 2), (8, .int (nI s)), (3, .int 0), (2, .ref (B + 518)), (1, .ref B), (0, .ref 0)]) (st' := [.int 0, .int (nI s), .ref B]) rfl ?_
  refine mi_callV okL_law_5 (mc := 0) (ms := 0) (mc' := 0) (ms' := 0) (b := B) (As := [.int (nI s), .int 0]) (st := []) rfl cv_RL_66 rfl (by decide) (show 6 ≤ _ by have := hw.z; omega) (show _ < h.1 by have := hw.z; omega) hw.ph rfl (Nat.le_of_ble_eq_true rfl) (c_ofSector_0 hw hs (n := 3) (by decide) (by obtain ⟨⟨nx, c, e1, -⟩, -⟩ := hI; rw [e1]; rfl)) (fun r h1 q9 => ?_)
  obtain ⟨rfl, e9⟩ := q9; have e9 := e9.symm; subst e9
  change mi_W pP X kL_law 7 0 0 486 [(7, .int ((wr_n q.2.1 s) + 1)), (10, .int 1), (9, .int 2), (8, .int (nI s)), (3, .int 0), (2, .ref (B + 518)), (1, .ref B), (0, .ref 0)] [.int (ph_tof q.2.2.2.1 (nI s) 0 3)] h _
  refine mi_if_lt okL_law_5 rfl rfl (fun c_486 => absurd c_486 (tof_pos hI.2.1 hI.2.2.1 hs hwr)) (fun c_486 => ?_)
  refine mi_blk okL_law_5 1 (pc' := 491) (lv' := [(7, .int ((wr_n q.2.1 s) + 1)), (10, .int 1), (9, .int 2), (8, .int (nI s)), (3, .int 0), (2, .ref (B + 518)), (1, .ref B), (0, .ref 0)]) (st' := [.int 1]) rfl ?_
  refine mi_if_ne okL_law_5 rfl rfl (fun c_491 => ?_) (fun c_491 => absurd c_491 (by decide))
  refine mi_blk okL_law_6 1 (pc' := 504) (lv' := [(7, .int ((wr_n q.2.1 s) + 1)), (10, .int 1), (9, .int 2), (8, .int (nI s)), (3, .int 0), (2, .ref (B + 518)), (1, .ref B), (0, .ref 0)]) (st' := [.int 1]) rfl ?_
  refine mi_if_eq okL_law_6 rfl rfl (fun c_504 => absurd c_504 (by decide)) (fun c_504 => ?_)
  refine mi_blk okL_law_6 1 (pc' := 508) (lv' := [(7, .int ((wr_n q.2.1 s) + 1)), (10, .int 1), (9, .int 2), (8, .int (nI s)), (3, .int 0), (2, .ref (B + 518)), (1, .ref B), (0, .ref 0)]) (st' := [.int 0]) rfl ?_
  refine mi_if_ne okL_law_6 rfl rfl (fun c_508 => absurd (by decide) c_508) (fun c_508 => ?_)
  refine mi_blk okL_law_6 2 (pc' := 514) (lv' := [(7, .int ((wr_n q.2.1 s) + 1)), (10, .int 1), (9, .int 2), (8, .int (nI s)), (3, .int 0), (2, .ref (B + 518)), (1, .ref B), (0, .ref 0)]) (st' := [.int 1, .int 2]) rfl ?_
  refine mi_ic_eq okL_law_6 rfl rfl (fun c_514 => absurd c_514 (by decide)) (fun c_514 => ?_)
  refine mi_blk okL_law_6 1 (pc' := 519) (lv' := [(7, .int ((wr_n q.2.1 s) + 1)), (10, .int 1), (9, .int 2), (8, .int (nI s)), (3, .int 0), (2, .ref (B + 518)), (1, .ref B), (0, .ref 0)]) (st' := [.int 1]) rfl ?_
  refine mi_if_eq okL_law_6 rfl rfl (fun c_519 => absurd c_519 (by decide)) (fun c_519 => ?_)
  refine mi_blk okL_law_6 1 (pc' := 524) (lv' := [(7, .int ((wr_n q.2.1 s) + 1)), (10, .int 1), (9, .int 2), (8, .int (nI s)), (3, .int 0), (2, .ref (B + 518)), (1, .ref B), (0, .ref 0)]) (st' := [.int 2]) rfl ?_
  refine mi_if_ne okL_law_6 rfl rfl (fun c_524 => ?_) (fun c_524 => absurd c_524 (by decide))
  refine mi_blk okL_law_6 1 (pc' := 550) (lv' := [(7, .int ((wr_n q.2.1 s) + 1)), (10, .int 1), (9, .int 2), (8, .int (nI s)), (3, .int 0), (2, .ref (B + 518)), (1, .ref B), (0, .ref 0)]) (st' := [.int 1]) rfl ?_
  refine mi_if_eq okL_law_6 rfl rfl (fun c_550 => absurd c_550 (by decide)) (fun c_550 => ?_)
  refine mi_blk okL_law_6 3 (pc' := 557) (lv' := [(7, .int ((wr_n q.2.1 s) + 1)), (10, .int 1), (9, .int 2), (8, .int (nI s)), (3, .int 0), (2, .ref (B + 518)), (1, .ref B), (0, .ref 0)]) (st' := [.int 4, .int (nI s), .ref B]) rfl ?_
  refine mi_callV okL_law_6 (mc := 0) (ms := 0) (mc' := 0) (ms' := 0) (b := B) (As := [.int (nI s), .int 4]) (st := []) rfl cv_RL_66 rfl (by decide) (show 6 ≤ _ by have := hw.z; omega) (show _ < h.1 by have := hw.z; omega) hw.ph rfl (Nat.le_of_ble_eq_true rfl) (c_ofSector_4 hw hs) (fun r h1 q9 => ?_)
  obtain ⟨rfl, e9⟩ := q9; have e9 := e9.symm; subst e9
  change mi_W pP X kL_law 7 0 0 560 [(7, .int ((wr_n q.2.1 s) + 1)), (10, .int 1), (9, .int 2), (8, .int (nI s)), (3, .int 0), (2, .ref (B + 518)), (1, .ref B), (0, .ref 0)] [.int ((q.2.1 s).2.2.2.2.2.1)] h _
  refine mi_blk okL_law_6 1 (pc' := 563) (lv' := [(7, .int ((wr_n q.2.1 s) + 1)), (10, .int 1), (9, .int 2), (8, .int (nI s)), (3, .int 0), (2, .ref (B + 518)), (1, .ref B), (0, .ref 0)]) (st' := [.int 128, .int ((q.2.1 s).2.2.2.2.2.1)]) rfl ?_
  refine mi_ic_gt okL_law_6 rfl rfl (fun c_563 => absurd c_563 (mi_le_nlt (sc_marks (hI.2.2.2.2.1 s hs) hwr).1)) (fun c_563 => ?_)
  refine mi_blk okL_law_6 3 (pc' := 570) (lv' := [(7, .int ((wr_n q.2.1 s) + 1)), (10, .int 1), (9, .int 2), (8, .int (nI s)), (3, .int 0), (2, .ref (B + 518)), (1, .ref B), (0, .ref 0)]) (st' := [.int 5, .int (nI s), .ref B]) rfl ?_
  refine mi_callV okL_law_6 (mc := 0) (ms := 0) (mc' := 0) (ms' := 0) (b := B) (As := [.int (nI s), .int 5]) (st := []) rfl cv_RL_66 rfl (by decide) (show 6 ≤ _ by have := hw.z; omega) (show _ < h.1 by have := hw.z; omega) hw.ph rfl (Nat.le_of_ble_eq_true rfl) (c_ofSector_5 hw hs) (fun r h1 q9 => ?_)
  obtain ⟨rfl, e9⟩ := q9; have e9 := e9.symm; subst e9
  change mi_W pP X kL_law 7 0 0 573 [(7, .int ((wr_n q.2.1 s) + 1)), (10, .int 1), (9, .int 2), (8, .int (nI s)), (3, .int 0), (2, .ref (B + 518)), (1, .ref B), (0, .ref 0)] [.int ((q.2.1 s).2.2.2.2.2.2.1)] h _
  refine mi_abs okL_law_6 rfl mm_RL_72 ms_abs mz_Math mc_abs (by decide) (Nat.le_of_ble_eq_true rfl) ?_
  refine mi_blk okL_law_6 1 (pc' := 577) (lv' := [(7, .int ((wr_n q.2.1 s) + 1)), (10, .int 1), (9, .int 2), (8, .int (nI s)), (3, .int 0), (2, .ref (B + 518)), (1, .ref B), (0, .ref 0)]) (st' := [.ref B, .int (if 0 ≤ (q.2.1 s).2.2.2.2.2.2.1 then (q.2.1 s).2.2.2.2.2.2.1 else 0 - ((q.2.1 s).2.2.2.2.2.2.1))]) rfl ?_
  refine mi_blk okL_law_7 1 (pc' := 579) (lv' := [(7, .int ((wr_n q.2.1 s) + 1)), (10, .int 1), (9, .int 2), (8, .int (nI s)), (3, .int 0), (2, .ref (B + 518)), (1, .ref B), (0, .ref 0)]) (st' := [.int (nI s), .ref B, .int (if 0 ≤ (q.2.1 s).2.2.2.2.2.2.1 then (q.2.1 s).2.2.2.2.2.2.1 else 0 - ((q.2.1 s).2.2.2.2.2.2.1))]) rfl ?_
  refine mi_blk okL_law_7 1 (pc' := 581) (lv' := [(7, .int ((wr_n q.2.1 s) + 1)), (10, .int 1), (9, .int 2), (8, .int (nI s)), (3, .int 0), (2, .ref (B + 518)), (1, .ref B), (0, .ref 0)]) (st' := [.int 6, .int (nI s), .ref B, .int (if 0 ≤ (q.2.1 s).2.2.2.2.2.2.1 then (q.2.1 s).2.2.2.2.2.2.1 else 0 - ((q.2.1 s).2.2.2.2.2.2.1))]) rfl ?_
  refine mi_callV okL_law_7 (mc := 0) (ms := 0) (mc' := 0) (ms' := 0) (b := B) (As := [.int (nI s), .int 6]) (st := [.int (if 0 ≤ (q.2.1 s).2.2.2.2.2.2.1 then (q.2.1 s).2.2.2.2.2.2.1 else 0 - ((q.2.1 s).2.2.2.2.2.2.1))]) rfl cv_RL_66 rfl (by decide) (show 6 ≤ _ by have := hw.z; omega) (show _ < h.1 by have := hw.z; omega) hw.ph rfl (Nat.le_of_ble_eq_true rfl) (c_ofSector_6 hw hs) (fun r h1 q9 => ?_)
  obtain ⟨rfl, e9⟩ := q9; have e9 := e9.symm; subst e9
  change mi_W pP X kL_law 7 0 0 584 [(7, .int ((wr_n q.2.1 s) + 1)), (10, .int 1), (9, .int 2), (8, .int (nI s)), (3, .int 0), (2, .ref (B + 518)), (1, .ref B), (0, .ref 0)] [.int ((q.2.1 s).2.2.2.2.2.2.2), .int (if 0 ≤ (q.2.1 s).2.2.2.2.2.2.1 then (q.2.1 s).2.2.2.2.2.2.1 else 0 - ((q.2.1 s).2.2.2.2.2.2.1))] h _
  refine mi_ic_le okL_law_7 rfl rfl (fun c_584 => ?_) (fun c_584 => absurd (sc_marks (hI.2.2.2.2.1 s hs) hwr).2 c_584)
  refine mi_blk okL_law_7 1 (pc' := 591) (lv' := [(7, .int ((wr_n q.2.1 s) + 1)), (10, .int 1), (9, .int 2), (8, .int (nI s)), (3, .int 0), (2, .ref (B + 518)), (1, .ref B), (0, .ref 0)]) (st' := [.int 2]) rfl ?_
  refine mi_if_ne okL_law_7 rfl rfl (fun c_591 => ?_) (fun c_591 => absurd c_591 (by decide))
  refine mi_blk okL_law_7 2 (pc' := 424) (lv' := [(8, .int ((nI s) + 1)), (7, .int ((wr_n q.2.1 s) + 1)), (10, .int 1), (9, .int 2), (3, .int 0), (2, .ref (B + 518)), (1, .ref B), (0, .ref 0)]) (st' := []) rfl ?_
  rw [← nI_succ]
  have ew : wr_n q.2.1 (s + 1) = wr_n q.2.1 s + 1 := if_neg hwr
  exact mi_WX.locs (by rw [ew]; simp) (kk _ _ hL hI rfl)
set_option maxHeartbeats 4000000 in
set_option maxRecDepth 100000 in
theorem w_see_1_1_0 {X : mi_X} (hX1 : mi_X1 X) {B : Nat} {q : ph_T} {to : Nat → Int64} {h : mi_H} (hL : LH B q to h) (hI : LI 80 q to 1) {s : Nat} (hs : s < 240) (hwr : ¬ (q.2.1 s).1 = 0) (hst : (q.2.1 s).2.2.2.1 = 0) {Q : Option Value → mi_H → Prop} (kk : ∀ (q' : ph_T) (h' : mi_H), LH B q' to h' → LI 80 q' to 1 → q'.2.1 = q.2.1 → mi_W pP X kL_law 7 0 0 424 [(8, .int (nI (s + 1))), (7, .int (wr_n q.2.1 (s + 1))), (3, .int 1), (2, .ref (B + 518)), (1, .ref B), (0, .ref 0)] [] h' Q) : mi_W pP X kL_law 7 0 0 432 [(8, .int (nI s)), (7, .int (wr_n q.2.1 s)), (3, .int 1), (2, .ref (B + 518)), (1, .ref B), (0, .ref 0)] [] h Q := by
  have hw := hL.1
  refine mi_blk okL_law_5 3 (pc' := 436) (lv' := [(8, .int (nI s)), (7, .int (wr_n q.2.1 s)), (3, .int 1), (2, .ref (B + 518)), (1, .ref B), (0, .ref 0)]) (st' := [.int 3, .int (nI s), .ref B]) rfl ?_
  refine mi_callV okL_law_5 (mc := 0) (ms := 0) (mc' := 0) (ms' := 0) (b := B) (As := [.int (nI s), .int 3]) (st := []) rfl cv_RL_66 rfl (by decide) (show 6 ≤ _ by have := hw.z; omega) (show _ < h.1 by have := hw.z; omega) hw.ph rfl (Nat.le_of_ble_eq_true rfl) (show mi_S pP X kX8_ofSector 3 [.ref B, .int (nI s), .int 3] h 0 0 (fun r h1 => r = some (.int 0) ∧ h1 = h) by have z := c_ofSector_3 (X := X) hw hs; rw [hst] at z; exact z) (fun r h1 q9 => ?_)
  obtain ⟨rfl, e9⟩ := q9; have e9 := e9.symm; subst e9
  change mi_W pP X kL_law 7 0 0 439 [(8, .int (nI s)), (7, .int (wr_n q.2.1 s)), (3, .int 1), (2, .ref (B + 518)), (1, .ref B), (0, .ref 0)] [.int 0] h _
  refine mi_blk okL_law_5 4 (pc' := 445) (lv' := [(9, .int 0), (8, .int (nI s)), (7, .int (wr_n q.2.1 s)), (3, .int 1), (2, .ref (B + 518)), (1, .ref B), (0, .ref 0)]) (st' := [.int 1, .int (nI s), .ref B]) rfl ?_
  refine mi_callV okL_law_5 (mc := 0) (ms := 0) (mc' := 0) (ms' := 0) (b := B) (As := [.int (nI s), .int 1]) (st := []) rfl cv_RL_66 rfl (by decide) (show 6 ≤ _ by have := hw.z; omega) (show _ < h.1 by have := hw.z; omega) hw.ph rfl (Nat.le_of_ble_eq_true rfl) (show mi_S pP X kX8_ofSector 3 [.ref B, .int (nI s), .int 1] h 0 0 (fun r h1 => r = some (.int 1) ∧ h1 = h) by have z := c_ofSector_1 (X := X) hw hs; rw [if_neg hwr] at z; exact z) (fun r h1 q9 => ?_)
  obtain ⟨rfl, e9⟩ := q9; have e9 := e9.symm; subst e9
  change mi_W pP X kL_law 7 0 0 448 [(9, .int 0), (8, .int (nI s)), (7, .int (wr_n q.2.1 s)), (3, .int 1), (2, .ref (B + 518)), (1, .ref B), (0, .ref 0)] [.int 1] h _
  refine mi_blk okL_law_5 1 (pc' := 449) (lv' := [(9, .int 0), (8, .int (nI s)), (7, .int (wr_n q.2.1 s)), (3, .int 1), (2, .ref (B + 518)), (1, .ref B), (0, .ref 0)]) (st' := [.int 1, .int 1]) rfl ?_
  refine mi_ic_ne okL_law_5 rfl rfl (fun c_449 => absurd (by decide) c_449) (fun c_449 => ?_)
  refine mi_blk okL_law_5 5 (pc' := 463) (lv' := [(10, .int 1), (9, .int 0), (8, .int (nI s)), (7, .int (wr_n q.2.1 s)), (3, .int 1), (2, .ref (B + 518)), (1, .ref B), (0, .ref 0)]) (st' := [.int 1, .int (wr_n q.2.1 s)]) rfl ?_
  refine mi_if_eq okL_law_5 rfl rfl (fun c_463 => absurd c_463 (by decide)) (fun c_463 => ?_)
  refine mi_blk okL_law_5 5 (pc' := 476) (lv' := [(7, .int ((wr_n q.2.1 s) + 1)), (10, .int 1), (9, .int 0), (8, .int (nI s)), (3, .int 1), (2, .ref (B + 518)), (1, .ref B), (0, .ref 0)]) (st' := [.int 1]) rfl ?_
  refine mi_if_eq okL_law_5 rfl rfl (fun c_476 => absurd c_476 (by decide)) (fun c_476 => ?_)
  refine mi_blk okL_law_5 3 (pc' := 483) (lv' := [(7, .int ((wr_n q.2.1 s) + 1)), (10, .int 1), (9, .int 0), (8, .int (nI s)), (3, .int 1), (2, .ref (B + 518)), (1, .ref B), (0, .ref 0)]) (st' := [.int 0, .int (nI s), .ref B]) rfl ?_
  refine mi_callV okL_law_5 (mc := 0) (ms := 0) (mc' := 0) (ms' := 0) (b := B) (As := [.int (nI s), .int 0]) (st := []) rfl cv_RL_66 rfl (by decide) (show 6 ≤ _ by have := hw.z; omega) (show _ < h.1 by have := hw.z; omega) hw.ph rfl (Nat.le_of_ble_eq_true rfl) (c_ofSector_0 hw hs (n := 3) (by decide) (by obtain ⟨⟨nx, c, e1, -⟩, -⟩ := hI; rw [e1]; rfl)) (fun r h1 q9 => ?_)
  obtain ⟨rfl, e9⟩ := q9; have e9 := e9.symm; subst e9
  change mi_W pP X kL_law 7 0 0 486 [(7, .int ((wr_n q.2.1 s) + 1)), (10, .int 1), (9, .int 0), (8, .int (nI s)), (3, .int 1), (2, .ref (B + 518)), (1, .ref B), (0, .ref 0)] [.int (ph_tof q.2.2.2.1 (nI s) 0 3)] h _
  refine mi_if_lt okL_law_5 rfl rfl (fun c_486 => absurd c_486 (tof_pos hI.2.1 hI.2.2.1 hs hwr)) (fun c_486 => ?_)
  refine mi_blk okL_law_5 1 (pc' := 491) (lv' := [(7, .int ((wr_n q.2.1 s) + 1)), (10, .int 1), (9, .int 0), (8, .int (nI s)), (3, .int 1), (2, .ref (B + 518)), (1, .ref B), (0, .ref 0)]) (st' := [.int 1]) rfl ?_
  refine mi_if_ne okL_law_5 rfl rfl (fun c_491 => ?_) (fun c_491 => absurd c_491 (by decide))
  refine mi_blk okL_law_6 1 (pc' := 504) (lv' := [(7, .int ((wr_n q.2.1 s) + 1)), (10, .int 1), (9, .int 0), (8, .int (nI s)), (3, .int 1), (2, .ref (B + 518)), (1, .ref B), (0, .ref 0)]) (st' := [.int 1]) rfl ?_
  refine mi_if_eq okL_law_6 rfl rfl (fun c_504 => absurd c_504 (by decide)) (fun c_504 => ?_)
  refine mi_blk okL_law_6 1 (pc' := 508) (lv' := [(7, .int ((wr_n q.2.1 s) + 1)), (10, .int 1), (9, .int 0), (8, .int (nI s)), (3, .int 1), (2, .ref (B + 518)), (1, .ref B), (0, .ref 0)]) (st' := [.int 1]) rfl ?_
  refine mi_if_ne okL_law_6 rfl rfl (fun c_508 => ?_) (fun c_508 => absurd c_508 (by decide))
  refine mi_blk okL_law_6 1 (pc' := 519) (lv' := [(7, .int ((wr_n q.2.1 s) + 1)), (10, .int 1), (9, .int 0), (8, .int (nI s)), (3, .int 1), (2, .ref (B + 518)), (1, .ref B), (0, .ref 0)]) (st' := [.int 1]) rfl ?_
  refine mi_if_eq okL_law_6 rfl rfl (fun c_519 => absurd c_519 (by decide)) (fun c_519 => ?_)
  refine mi_blk okL_law_6 1 (pc' := 524) (lv' := [(7, .int ((wr_n q.2.1 s) + 1)), (10, .int 1), (9, .int 0), (8, .int (nI s)), (3, .int 1), (2, .ref (B + 518)), (1, .ref B), (0, .ref 0)]) (st' := [.int 0]) rfl ?_
  refine mi_if_ne okL_law_6 rfl rfl (fun c_524 => absurd (by decide) c_524) (fun c_524 => ?_)
  refine mi_blk okL_law_6 1 (pc' := 528) (lv' := [(7, .int ((wr_n q.2.1 s) + 1)), (10, .int 1), (9, .int 0), (8, .int (nI s)), (3, .int 1), (2, .ref (B + 518)), (1, .ref B), (0, .ref 0)]) (st' := [.int 1]) rfl ?_
  refine mi_if_ne okL_law_6 rfl rfl (fun c_528 => ?_) (fun c_528 => absurd c_528 (by decide))
  refine mi_blk okL_law_6 1 (pc' := 550) (lv' := [(7, .int ((wr_n q.2.1 s) + 1)), (10, .int 1), (9, .int 0), (8, .int (nI s)), (3, .int 1), (2, .ref (B + 518)), (1, .ref B), (0, .ref 0)]) (st' := [.int 1]) rfl ?_
  refine mi_if_eq okL_law_6 rfl rfl (fun c_550 => absurd c_550 (by decide)) (fun c_550 => ?_)
  refine mi_blk okL_law_6 3 (pc' := 557) (lv' := [(7, .int ((wr_n q.2.1 s) + 1)), (10, .int 1), (9, .int 0), (8, .int (nI s)), (3, .int 1), (2, .ref (B + 518)), (1, .ref B), (0, .ref 0)]) (st' := [.int 4, .int (nI s), .ref B]) rfl ?_
  refine mi_callV okL_law_6 (mc := 0) (ms := 0) (mc' := 0) (ms' := 0) (b := B) (As := [.int (nI s), .int 4]) (st := []) rfl cv_RL_66 rfl (by decide) (show 6 ≤ _ by have := hw.z; omega) (show _ < h.1 by have := hw.z; omega) hw.ph rfl (Nat.le_of_ble_eq_true rfl) (c_ofSector_4 hw hs) (fun r h1 q9 => ?_)
  obtain ⟨rfl, e9⟩ := q9; have e9 := e9.symm; subst e9
  change mi_W pP X kL_law 7 0 0 560 [(7, .int ((wr_n q.2.1 s) + 1)), (10, .int 1), (9, .int 0), (8, .int (nI s)), (3, .int 1), (2, .ref (B + 518)), (1, .ref B), (0, .ref 0)] [.int ((q.2.1 s).2.2.2.2.2.1)] h _
  refine mi_blk okL_law_6 1 (pc' := 563) (lv' := [(7, .int ((wr_n q.2.1 s) + 1)), (10, .int 1), (9, .int 0), (8, .int (nI s)), (3, .int 1), (2, .ref (B + 518)), (1, .ref B), (0, .ref 0)]) (st' := [.int 128, .int ((q.2.1 s).2.2.2.2.2.1)]) rfl ?_
  refine mi_ic_gt okL_law_6 rfl rfl (fun c_563 => absurd c_563 (mi_le_nlt (sc_marks (hI.2.2.2.2.1 s hs) hwr).1)) (fun c_563 => ?_)
  refine mi_blk okL_law_6 3 (pc' := 570) (lv' := [(7, .int ((wr_n q.2.1 s) + 1)), (10, .int 1), (9, .int 0), (8, .int (nI s)), (3, .int 1), (2, .ref (B + 518)), (1, .ref B), (0, .ref 0)]) (st' := [.int 5, .int (nI s), .ref B]) rfl ?_
  refine mi_callV okL_law_6 (mc := 0) (ms := 0) (mc' := 0) (ms' := 0) (b := B) (As := [.int (nI s), .int 5]) (st := []) rfl cv_RL_66 rfl (by decide) (show 6 ≤ _ by have := hw.z; omega) (show _ < h.1 by have := hw.z; omega) hw.ph rfl (Nat.le_of_ble_eq_true rfl) (c_ofSector_5 hw hs) (fun r h1 q9 => ?_)
  obtain ⟨rfl, e9⟩ := q9; have e9 := e9.symm; subst e9
  change mi_W pP X kL_law 7 0 0 573 [(7, .int ((wr_n q.2.1 s) + 1)), (10, .int 1), (9, .int 0), (8, .int (nI s)), (3, .int 1), (2, .ref (B + 518)), (1, .ref B), (0, .ref 0)] [.int ((q.2.1 s).2.2.2.2.2.2.1)] h _
  refine mi_abs okL_law_6 rfl mm_RL_72 ms_abs mz_Math mc_abs (by decide) (Nat.le_of_ble_eq_true rfl) ?_
  refine mi_blk okL_law_6 1 (pc' := 577) (lv' := [(7, .int ((wr_n q.2.1 s) + 1)), (10, .int 1), (9, .int 0), (8, .int (nI s)), (3, .int 1), (2, .ref (B + 518)), (1, .ref B), (0, .ref 0)]) (st' := [.ref B, .int (if 0 ≤ (q.2.1 s).2.2.2.2.2.2.1 then (q.2.1 s).2.2.2.2.2.2.1 else 0 - ((q.2.1 s).2.2.2.2.2.2.1))]) rfl ?_
  refine mi_blk okL_law_7 1 (pc' := 579) (lv' := [(7, .int ((wr_n q.2.1 s) + 1)), (10, .int 1), (9, .int 0), (8, .int (nI s)), (3, .int 1), (2, .ref (B + 518)), (1, .ref B), (0, .ref 0)]) (st' := [.int (nI s), .ref B, .int (if 0 ≤ (q.2.1 s).2.2.2.2.2.2.1 then (q.2.1 s).2.2.2.2.2.2.1 else 0 - ((q.2.1 s).2.2.2.2.2.2.1))]) rfl ?_
  refine mi_blk okL_law_7 1 (pc' := 581) (lv' := [(7, .int ((wr_n q.2.1 s) + 1)), (10, .int 1), (9, .int 0), (8, .int (nI s)), (3, .int 1), (2, .ref (B + 518)), (1, .ref B), (0, .ref 0)]) (st' := [.int 6, .int (nI s), .ref B, .int (if 0 ≤ (q.2.1 s).2.2.2.2.2.2.1 then (q.2.1 s).2.2.2.2.2.2.1 else 0 - ((q.2.1 s).2.2.2.2.2.2.1))]) rfl ?_
  refine mi_callV okL_law_7 (mc := 0) (ms := 0) (mc' := 0) (ms' := 0) (b := B) (As := [.int (nI s), .int 6]) (st := [.int (if 0 ≤ (q.2.1 s).2.2.2.2.2.2.1 then (q.2.1 s).2.2.2.2.2.2.1 else 0 - ((q.2.1 s).2.2.2.2.2.2.1))]) rfl cv_RL_66 rfl (by decide) (show 6 ≤ _ by have := hw.z; omega) (show _ < h.1 by have := hw.z; omega) hw.ph rfl (Nat.le_of_ble_eq_true rfl) (c_ofSector_6 hw hs) (fun r h1 q9 => ?_)
  obtain ⟨rfl, e9⟩ := q9; have e9 := e9.symm; subst e9
  change mi_W pP X kL_law 7 0 0 584 [(7, .int ((wr_n q.2.1 s) + 1)), (10, .int 1), (9, .int 0), (8, .int (nI s)), (3, .int 1), (2, .ref (B + 518)), (1, .ref B), (0, .ref 0)] [.int ((q.2.1 s).2.2.2.2.2.2.2), .int (if 0 ≤ (q.2.1 s).2.2.2.2.2.2.1 then (q.2.1 s).2.2.2.2.2.2.1 else 0 - ((q.2.1 s).2.2.2.2.2.2.1))] h _
  refine mi_ic_le okL_law_7 rfl rfl (fun c_584 => ?_) (fun c_584 => absurd (sc_marks (hI.2.2.2.2.1 s hs) hwr).2 c_584)
  refine mi_blk okL_law_7 1 (pc' := 591) (lv' := [(7, .int ((wr_n q.2.1 s) + 1)), (10, .int 1), (9, .int 0), (8, .int (nI s)), (3, .int 1), (2, .ref (B + 518)), (1, .ref B), (0, .ref 0)]) (st' := [.int 0]) rfl ?_
  refine mi_if_ne okL_law_7 rfl rfl (fun c_591 => absurd (by decide) c_591) (fun c_591 => ?_)
  refine mi_blk okL_law_7 3 (pc' := 598) (lv' := [(7, .int ((wr_n q.2.1 s) + 1)), (10, .int 1), (9, .int 0), (8, .int (nI s)), (3, .int 1), (2, .ref (B + 518)), (1, .ref B), (0, .ref 0)]) (st' := [.int 0, .int (nI s), .ref B]) rfl ?_
  refine mi_callV okL_law_7 (mc := 0) (ms := 0) (mc' := 0) (ms' := 0) (b := B) (As := [.int (nI s), .int 0]) (st := []) rfl cv_RL_77 rfl (by decide) (show 6 ≤ _ by have := hw.z; omega) (show _ < h.1 by have := hw.z; omega) hw.ph rfl (Nat.le_of_ble_eq_true rfl) (c_wouldMend hX1 hw hs (t := 0) (by decide) (by decide)) (fun r h1 q9 => ?_)
  obtain ⟨rfl, e9⟩ := q9; have e9 := e9.symm; subst e9
  change mi_W pP X kL_law 7 0 0 601 [(7, .int ((wr_n q.2.1 s) + 1)), (10, .int 1), (9, .int 0), (8, .int (nI s)), (3, .int 1), (2, .ref (B + 518)), (1, .ref B), (0, .ref 0)] [.int (se_jd (nI s) (q.2.1 s).1 (q.2.1 s).2.1 (q.2.1 s).2.2.1 (bl_mend (bl_clr ((q.2.2.1 s).2 ||| 0) (q.2.2.1 s).1 16) ((q.2.2.1 s).2 ||| 0)).1 (bl_mend (bl_clr ((q.2.2.1 s).2 ||| 0) (q.2.2.1 s).1 16) ((q.2.2.1 s).2 ||| 0)).2)] (mi_set h (B + 28) (bl_c (bl_mend (bl_clr ((q.2.2.1 s).2 ||| 0) (q.2.2.1 s).1 16) ((q.2.2.1 s).2 ||| 0)).1 (bl_mend (bl_clr ((q.2.2.1 s).2 ||| 0) (q.2.2.1 s).1 16) ((q.2.2.1 s).2 ||| 0)).2)) _
  refine mi_if_eq okL_law_7 rfl rfl (fun c_601 => ?_) (fun c_601 => absurd (by rw [sc_would (hI.2.2.2.2.1 s hs) hwr, hst]) c_601)
  refine mi_blk okL_law_7 2 (pc' := 424) (lv' := [(8, .int ((nI s) + 1)), (7, .int ((wr_n q.2.1 s) + 1)), (10, .int 1), (9, .int 0), (3, .int 1), (2, .ref (B + 518)), (1, .ref B), (0, .ref 0)]) (st' := []) rfl ?_
  rw [← nI_succ]
  have ew : wr_n q.2.1 (s + 1) = wr_n q.2.1 s + 1 := if_neg hwr
  exact mi_WX.locs (by rw [ew]; simp) (kk _ _ (hL.go ((ph_X.rf hw).set_cp _ _)) hI rfl)
set_option maxHeartbeats 4000000 in
set_option maxRecDepth 100000 in
theorem w_see_1_1_1 {X : mi_X} (hX1 : mi_X1 X) {B : Nat} {q : ph_T} {to : Nat → Int64} {h : mi_H} (hL : LH B q to h) (hI : LI 80 q to 1) {s : Nat} (hs : s < 240) (hwr : ¬ (q.2.1 s).1 = 0) (hst : (q.2.1 s).2.2.2.1 = 1) {Q : Option Value → mi_H → Prop} (kk : ∀ (q' : ph_T) (h' : mi_H), LH B q' to h' → LI 80 q' to 1 → q'.2.1 = q.2.1 → mi_W pP X kL_law 7 0 0 424 [(8, .int (nI (s + 1))), (7, .int (wr_n q.2.1 (s + 1))), (3, .int 1), (2, .ref (B + 518)), (1, .ref B), (0, .ref 0)] [] h' Q) : mi_W pP X kL_law 7 0 0 432 [(8, .int (nI s)), (7, .int (wr_n q.2.1 s)), (3, .int 1), (2, .ref (B + 518)), (1, .ref B), (0, .ref 0)] [] h Q := by
  have hw := hL.1
  refine mi_blk okL_law_5 3 (pc' := 436) (lv' := [(8, .int (nI s)), (7, .int (wr_n q.2.1 s)), (3, .int 1), (2, .ref (B + 518)), (1, .ref B), (0, .ref 0)]) (st' := [.int 3, .int (nI s), .ref B]) rfl ?_
  refine mi_callV okL_law_5 (mc := 0) (ms := 0) (mc' := 0) (ms' := 0) (b := B) (As := [.int (nI s), .int 3]) (st := []) rfl cv_RL_66 rfl (by decide) (show 6 ≤ _ by have := hw.z; omega) (show _ < h.1 by have := hw.z; omega) hw.ph rfl (Nat.le_of_ble_eq_true rfl) (show mi_S pP X kX8_ofSector 3 [.ref B, .int (nI s), .int 3] h 0 0 (fun r h1 => r = some (.int 1) ∧ h1 = h) by have z := c_ofSector_3 (X := X) hw hs; rw [hst] at z; exact z) (fun r h1 q9 => ?_)
  obtain ⟨rfl, e9⟩ := q9; have e9 := e9.symm; subst e9
  change mi_W pP X kL_law 7 0 0 439 [(8, .int (nI s)), (7, .int (wr_n q.2.1 s)), (3, .int 1), (2, .ref (B + 518)), (1, .ref B), (0, .ref 0)] [.int 1] h _
  refine mi_blk okL_law_5 4 (pc' := 445) (lv' := [(9, .int 1), (8, .int (nI s)), (7, .int (wr_n q.2.1 s)), (3, .int 1), (2, .ref (B + 518)), (1, .ref B), (0, .ref 0)]) (st' := [.int 1, .int (nI s), .ref B]) rfl ?_
  refine mi_callV okL_law_5 (mc := 0) (ms := 0) (mc' := 0) (ms' := 0) (b := B) (As := [.int (nI s), .int 1]) (st := []) rfl cv_RL_66 rfl (by decide) (show 6 ≤ _ by have := hw.z; omega) (show _ < h.1 by have := hw.z; omega) hw.ph rfl (Nat.le_of_ble_eq_true rfl) (show mi_S pP X kX8_ofSector 3 [.ref B, .int (nI s), .int 1] h 0 0 (fun r h1 => r = some (.int 1) ∧ h1 = h) by have z := c_ofSector_1 (X := X) hw hs; rw [if_neg hwr] at z; exact z) (fun r h1 q9 => ?_)
  obtain ⟨rfl, e9⟩ := q9; have e9 := e9.symm; subst e9
  change mi_W pP X kL_law 7 0 0 448 [(9, .int 1), (8, .int (nI s)), (7, .int (wr_n q.2.1 s)), (3, .int 1), (2, .ref (B + 518)), (1, .ref B), (0, .ref 0)] [.int 1] h _
  refine mi_blk okL_law_5 1 (pc' := 449) (lv' := [(9, .int 1), (8, .int (nI s)), (7, .int (wr_n q.2.1 s)), (3, .int 1), (2, .ref (B + 518)), (1, .ref B), (0, .ref 0)]) (st' := [.int 1, .int 1]) rfl ?_
  refine mi_ic_ne okL_law_5 rfl rfl (fun c_449 => absurd (by decide) c_449) (fun c_449 => ?_)
  refine mi_blk okL_law_5 5 (pc' := 463) (lv' := [(10, .int 1), (9, .int 1), (8, .int (nI s)), (7, .int (wr_n q.2.1 s)), (3, .int 1), (2, .ref (B + 518)), (1, .ref B), (0, .ref 0)]) (st' := [.int 1, .int (wr_n q.2.1 s)]) rfl ?_
  refine mi_if_eq okL_law_5 rfl rfl (fun c_463 => absurd c_463 (by decide)) (fun c_463 => ?_)
  refine mi_blk okL_law_5 5 (pc' := 476) (lv' := [(7, .int ((wr_n q.2.1 s) + 1)), (10, .int 1), (9, .int 1), (8, .int (nI s)), (3, .int 1), (2, .ref (B + 518)), (1, .ref B), (0, .ref 0)]) (st' := [.int 1]) rfl ?_
  refine mi_if_eq okL_law_5 rfl rfl (fun c_476 => absurd c_476 (by decide)) (fun c_476 => ?_)
  refine mi_blk okL_law_5 3 (pc' := 483) (lv' := [(7, .int ((wr_n q.2.1 s) + 1)), (10, .int 1), (9, .int 1), (8, .int (nI s)), (3, .int 1), (2, .ref (B + 518)), (1, .ref B), (0, .ref 0)]) (st' := [.int 0, .int (nI s), .ref B]) rfl ?_
  refine mi_callV okL_law_5 (mc := 0) (ms := 0) (mc' := 0) (ms' := 0) (b := B) (As := [.int (nI s), .int 0]) (st := []) rfl cv_RL_66 rfl (by decide) (show 6 ≤ _ by have := hw.z; omega) (show _ < h.1 by have := hw.z; omega) hw.ph rfl (Nat.le_of_ble_eq_true rfl) (c_ofSector_0 hw hs (n := 3) (by decide) (by obtain ⟨⟨nx, c, e1, -⟩, -⟩ := hI; rw [e1]; rfl)) (fun r h1 q9 => ?_)
  obtain ⟨rfl, e9⟩ := q9; have e9 := e9.symm; subst e9
  change mi_W pP X kL_law 7 0 0 486 [(7, .int ((wr_n q.2.1 s) + 1)), (10, .int 1), (9, .int 1), (8, .int (nI s)), (3, .int 1), (2, .ref (B + 518)), (1, .ref B), (0, .ref 0)] [.int (ph_tof q.2.2.2.1 (nI s) 0 3)] h _
  refine mi_if_lt okL_law_5 rfl rfl (fun c_486 => absurd c_486 (tof_pos hI.2.1 hI.2.2.1 hs hwr)) (fun c_486 => ?_)
  refine mi_blk okL_law_5 1 (pc' := 491) (lv' := [(7, .int ((wr_n q.2.1 s) + 1)), (10, .int 1), (9, .int 1), (8, .int (nI s)), (3, .int 1), (2, .ref (B + 518)), (1, .ref B), (0, .ref 0)]) (st' := [.int 1]) rfl ?_
  refine mi_if_ne okL_law_5 rfl rfl (fun c_491 => ?_) (fun c_491 => absurd c_491 (by decide))
  refine mi_blk okL_law_6 1 (pc' := 504) (lv' := [(7, .int ((wr_n q.2.1 s) + 1)), (10, .int 1), (9, .int 1), (8, .int (nI s)), (3, .int 1), (2, .ref (B + 518)), (1, .ref B), (0, .ref 0)]) (st' := [.int 1]) rfl ?_
  refine mi_if_eq okL_law_6 rfl rfl (fun c_504 => absurd c_504 (by decide)) (fun c_504 => ?_)
  refine mi_blk okL_law_6 1 (pc' := 508) (lv' := [(7, .int ((wr_n q.2.1 s) + 1)), (10, .int 1), (9, .int 1), (8, .int (nI s)), (3, .int 1), (2, .ref (B + 518)), (1, .ref B), (0, .ref 0)]) (st' := [.int 1]) rfl ?_
  refine mi_if_ne okL_law_6 rfl rfl (fun c_508 => ?_) (fun c_508 => absurd c_508 (by decide))
  refine mi_blk okL_law_6 1 (pc' := 519) (lv' := [(7, .int ((wr_n q.2.1 s) + 1)), (10, .int 1), (9, .int 1), (8, .int (nI s)), (3, .int 1), (2, .ref (B + 518)), (1, .ref B), (0, .ref 0)]) (st' := [.int 1]) rfl ?_
  refine mi_if_eq okL_law_6 rfl rfl (fun c_519 => absurd c_519 (by decide)) (fun c_519 => ?_)
  refine mi_blk okL_law_6 1 (pc' := 524) (lv' := [(7, .int ((wr_n q.2.1 s) + 1)), (10, .int 1), (9, .int 1), (8, .int (nI s)), (3, .int 1), (2, .ref (B + 518)), (1, .ref B), (0, .ref 0)]) (st' := [.int 1]) rfl ?_
  refine mi_if_ne okL_law_6 rfl rfl (fun c_524 => ?_) (fun c_524 => absurd c_524 (by decide))
  refine mi_blk okL_law_6 1 (pc' := 550) (lv' := [(7, .int ((wr_n q.2.1 s) + 1)), (10, .int 1), (9, .int 1), (8, .int (nI s)), (3, .int 1), (2, .ref (B + 518)), (1, .ref B), (0, .ref 0)]) (st' := [.int 1]) rfl ?_
  refine mi_if_eq okL_law_6 rfl rfl (fun c_550 => absurd c_550 (by decide)) (fun c_550 => ?_)
  refine mi_blk okL_law_6 3 (pc' := 557) (lv' := [(7, .int ((wr_n q.2.1 s) + 1)), (10, .int 1), (9, .int 1), (8, .int (nI s)), (3, .int 1), (2, .ref (B + 518)), (1, .ref B), (0, .ref 0)]) (st' := [.int 4, .int (nI s), .ref B]) rfl ?_
  refine mi_callV okL_law_6 (mc := 0) (ms := 0) (mc' := 0) (ms' := 0) (b := B) (As := [.int (nI s), .int 4]) (st := []) rfl cv_RL_66 rfl (by decide) (show 6 ≤ _ by have := hw.z; omega) (show _ < h.1 by have := hw.z; omega) hw.ph rfl (Nat.le_of_ble_eq_true rfl) (c_ofSector_4 hw hs) (fun r h1 q9 => ?_)
  obtain ⟨rfl, e9⟩ := q9; have e9 := e9.symm; subst e9
  change mi_W pP X kL_law 7 0 0 560 [(7, .int ((wr_n q.2.1 s) + 1)), (10, .int 1), (9, .int 1), (8, .int (nI s)), (3, .int 1), (2, .ref (B + 518)), (1, .ref B), (0, .ref 0)] [.int ((q.2.1 s).2.2.2.2.2.1)] h _
  refine mi_blk okL_law_6 1 (pc' := 563) (lv' := [(7, .int ((wr_n q.2.1 s) + 1)), (10, .int 1), (9, .int 1), (8, .int (nI s)), (3, .int 1), (2, .ref (B + 518)), (1, .ref B), (0, .ref 0)]) (st' := [.int 128, .int ((q.2.1 s).2.2.2.2.2.1)]) rfl ?_
  refine mi_ic_gt okL_law_6 rfl rfl (fun c_563 => absurd c_563 (mi_le_nlt (sc_marks (hI.2.2.2.2.1 s hs) hwr).1)) (fun c_563 => ?_)
  refine mi_blk okL_law_6 3 (pc' := 570) (lv' := [(7, .int ((wr_n q.2.1 s) + 1)), (10, .int 1), (9, .int 1), (8, .int (nI s)), (3, .int 1), (2, .ref (B + 518)), (1, .ref B), (0, .ref 0)]) (st' := [.int 5, .int (nI s), .ref B]) rfl ?_
  refine mi_callV okL_law_6 (mc := 0) (ms := 0) (mc' := 0) (ms' := 0) (b := B) (As := [.int (nI s), .int 5]) (st := []) rfl cv_RL_66 rfl (by decide) (show 6 ≤ _ by have := hw.z; omega) (show _ < h.1 by have := hw.z; omega) hw.ph rfl (Nat.le_of_ble_eq_true rfl) (c_ofSector_5 hw hs) (fun r h1 q9 => ?_)
  obtain ⟨rfl, e9⟩ := q9; have e9 := e9.symm; subst e9
  change mi_W pP X kL_law 7 0 0 573 [(7, .int ((wr_n q.2.1 s) + 1)), (10, .int 1), (9, .int 1), (8, .int (nI s)), (3, .int 1), (2, .ref (B + 518)), (1, .ref B), (0, .ref 0)] [.int ((q.2.1 s).2.2.2.2.2.2.1)] h _
  refine mi_abs okL_law_6 rfl mm_RL_72 ms_abs mz_Math mc_abs (by decide) (Nat.le_of_ble_eq_true rfl) ?_
  refine mi_blk okL_law_6 1 (pc' := 577) (lv' := [(7, .int ((wr_n q.2.1 s) + 1)), (10, .int 1), (9, .int 1), (8, .int (nI s)), (3, .int 1), (2, .ref (B + 518)), (1, .ref B), (0, .ref 0)]) (st' := [.ref B, .int (if 0 ≤ (q.2.1 s).2.2.2.2.2.2.1 then (q.2.1 s).2.2.2.2.2.2.1 else 0 - ((q.2.1 s).2.2.2.2.2.2.1))]) rfl ?_
  refine mi_blk okL_law_7 1 (pc' := 579) (lv' := [(7, .int ((wr_n q.2.1 s) + 1)), (10, .int 1), (9, .int 1), (8, .int (nI s)), (3, .int 1), (2, .ref (B + 518)), (1, .ref B), (0, .ref 0)]) (st' := [.int (nI s), .ref B, .int (if 0 ≤ (q.2.1 s).2.2.2.2.2.2.1 then (q.2.1 s).2.2.2.2.2.2.1 else 0 - ((q.2.1 s).2.2.2.2.2.2.1))]) rfl ?_
  refine mi_blk okL_law_7 1 (pc' := 581) (lv' := [(7, .int ((wr_n q.2.1 s) + 1)), (10, .int 1), (9, .int 1), (8, .int (nI s)), (3, .int 1), (2, .ref (B + 518)), (1, .ref B), (0, .ref 0)]) (st' := [.int 6, .int (nI s), .ref B, .int (if 0 ≤ (q.2.1 s).2.2.2.2.2.2.1 then (q.2.1 s).2.2.2.2.2.2.1 else 0 - ((q.2.1 s).2.2.2.2.2.2.1))]) rfl ?_
  refine mi_callV okL_law_7 (mc := 0) (ms := 0) (mc' := 0) (ms' := 0) (b := B) (As := [.int (nI s), .int 6]) (st := [.int (if 0 ≤ (q.2.1 s).2.2.2.2.2.2.1 then (q.2.1 s).2.2.2.2.2.2.1 else 0 - ((q.2.1 s).2.2.2.2.2.2.1))]) rfl cv_RL_66 rfl (by decide) (show 6 ≤ _ by have := hw.z; omega) (show _ < h.1 by have := hw.z; omega) hw.ph rfl (Nat.le_of_ble_eq_true rfl) (c_ofSector_6 hw hs) (fun r h1 q9 => ?_)
  obtain ⟨rfl, e9⟩ := q9; have e9 := e9.symm; subst e9
  change mi_W pP X kL_law 7 0 0 584 [(7, .int ((wr_n q.2.1 s) + 1)), (10, .int 1), (9, .int 1), (8, .int (nI s)), (3, .int 1), (2, .ref (B + 518)), (1, .ref B), (0, .ref 0)] [.int ((q.2.1 s).2.2.2.2.2.2.2), .int (if 0 ≤ (q.2.1 s).2.2.2.2.2.2.1 then (q.2.1 s).2.2.2.2.2.2.1 else 0 - ((q.2.1 s).2.2.2.2.2.2.1))] h _
  refine mi_ic_le okL_law_7 rfl rfl (fun c_584 => ?_) (fun c_584 => absurd (sc_marks (hI.2.2.2.2.1 s hs) hwr).2 c_584)
  refine mi_blk okL_law_7 1 (pc' := 591) (lv' := [(7, .int ((wr_n q.2.1 s) + 1)), (10, .int 1), (9, .int 1), (8, .int (nI s)), (3, .int 1), (2, .ref (B + 518)), (1, .ref B), (0, .ref 0)]) (st' := [.int 1]) rfl ?_
  refine mi_if_ne okL_law_7 rfl rfl (fun c_591 => ?_) (fun c_591 => absurd c_591 (by decide))
  refine mi_blk okL_law_7 2 (pc' := 424) (lv' := [(8, .int ((nI s) + 1)), (7, .int ((wr_n q.2.1 s) + 1)), (10, .int 1), (9, .int 1), (3, .int 1), (2, .ref (B + 518)), (1, .ref B), (0, .ref 0)]) (st' := []) rfl ?_
  rw [← nI_succ]
  have ew : wr_n q.2.1 (s + 1) = wr_n q.2.1 s + 1 := if_neg hwr
  exact mi_WX.locs (by rw [ew]; simp) (kk _ _ hL hI rfl)
set_option maxHeartbeats 4000000 in
set_option maxRecDepth 100000 in
theorem w_see_1_1_2 {X : mi_X} (hX1 : mi_X1 X) {B : Nat} {q : ph_T} {to : Nat → Int64} {h : mi_H} (hL : LH B q to h) (hI : LI 80 q to 1) {s : Nat} (hs : s < 240) (hwr : ¬ (q.2.1 s).1 = 0) (hst : (q.2.1 s).2.2.2.1 = 2) {Q : Option Value → mi_H → Prop} (kk : ∀ (q' : ph_T) (h' : mi_H), LH B q' to h' → LI 80 q' to 1 → q'.2.1 = q.2.1 → mi_W pP X kL_law 7 0 0 424 [(8, .int (nI (s + 1))), (7, .int (wr_n q.2.1 (s + 1))), (3, .int 1), (2, .ref (B + 518)), (1, .ref B), (0, .ref 0)] [] h' Q) : mi_W pP X kL_law 7 0 0 432 [(8, .int (nI s)), (7, .int (wr_n q.2.1 s)), (3, .int 1), (2, .ref (B + 518)), (1, .ref B), (0, .ref 0)] [] h Q := by
  have hw := hL.1
  refine mi_blk okL_law_5 3 (pc' := 436) (lv' := [(8, .int (nI s)), (7, .int (wr_n q.2.1 s)), (3, .int 1), (2, .ref (B + 518)), (1, .ref B), (0, .ref 0)]) (st' := [.int 3, .int (nI s), .ref B]) rfl ?_
  refine mi_callV okL_law_5 (mc := 0) (ms := 0) (mc' := 0) (ms' := 0) (b := B) (As := [.int (nI s), .int 3]) (st := []) rfl cv_RL_66 rfl (by decide) (show 6 ≤ _ by have := hw.z; omega) (show _ < h.1 by have := hw.z; omega) hw.ph rfl (Nat.le_of_ble_eq_true rfl) (show mi_S pP X kX8_ofSector 3 [.ref B, .int (nI s), .int 3] h 0 0 (fun r h1 => r = some (.int 2) ∧ h1 = h) by have z := c_ofSector_3 (X := X) hw hs; rw [hst] at z; exact z) (fun r h1 q9 => ?_)
  obtain ⟨rfl, e9⟩ := q9; have e9 := e9.symm; subst e9
  change mi_W pP X kL_law 7 0 0 439 [(8, .int (nI s)), (7, .int (wr_n q.2.1 s)), (3, .int 1), (2, .ref (B + 518)), (1, .ref B), (0, .ref 0)] [.int 2] h _
  refine mi_blk okL_law_5 4 (pc' := 445) (lv' := [(9, .int 2), (8, .int (nI s)), (7, .int (wr_n q.2.1 s)), (3, .int 1), (2, .ref (B + 518)), (1, .ref B), (0, .ref 0)]) (st' := [.int 1, .int (nI s), .ref B]) rfl ?_
  refine mi_callV okL_law_5 (mc := 0) (ms := 0) (mc' := 0) (ms' := 0) (b := B) (As := [.int (nI s), .int 1]) (st := []) rfl cv_RL_66 rfl (by decide) (show 6 ≤ _ by have := hw.z; omega) (show _ < h.1 by have := hw.z; omega) hw.ph rfl (Nat.le_of_ble_eq_true rfl) (show mi_S pP X kX8_ofSector 3 [.ref B, .int (nI s), .int 1] h 0 0 (fun r h1 => r = some (.int 1) ∧ h1 = h) by have z := c_ofSector_1 (X := X) hw hs; rw [if_neg hwr] at z; exact z) (fun r h1 q9 => ?_)
  obtain ⟨rfl, e9⟩ := q9; have e9 := e9.symm; subst e9
  change mi_W pP X kL_law 7 0 0 448 [(9, .int 2), (8, .int (nI s)), (7, .int (wr_n q.2.1 s)), (3, .int 1), (2, .ref (B + 518)), (1, .ref B), (0, .ref 0)] [.int 1] h _
  refine mi_blk okL_law_5 1 (pc' := 449) (lv' := [(9, .int 2), (8, .int (nI s)), (7, .int (wr_n q.2.1 s)), (3, .int 1), (2, .ref (B + 518)), (1, .ref B), (0, .ref 0)]) (st' := [.int 1, .int 1]) rfl ?_
  refine mi_ic_ne okL_law_5 rfl rfl (fun c_449 => absurd (by decide) c_449) (fun c_449 => ?_)
  refine mi_blk okL_law_5 5 (pc' := 463) (lv' := [(10, .int 1), (9, .int 2), (8, .int (nI s)), (7, .int (wr_n q.2.1 s)), (3, .int 1), (2, .ref (B + 518)), (1, .ref B), (0, .ref 0)]) (st' := [.int 1, .int (wr_n q.2.1 s)]) rfl ?_
  refine mi_if_eq okL_law_5 rfl rfl (fun c_463 => absurd c_463 (by decide)) (fun c_463 => ?_)
  refine mi_blk okL_law_5 5 (pc' := 476) (lv' := [(7, .int ((wr_n q.2.1 s) + 1)), (10, .int 1), (9, .int 2), (8, .int (nI s)), (3, .int 1), (2, .ref (B + 518)), (1, .ref B), (0, .ref 0)]) (st' := [.int 1]) rfl ?_
  refine mi_if_eq okL_law_5 rfl rfl (fun c_476 => absurd c_476 (by decide)) (fun c_476 => ?_)
  refine mi_blk okL_law_5 3 (pc' := 483) (lv' := [(7, .int ((wr_n q.2.1 s) + 1)), (10, .int 1), (9, .int 2), (8, .int (nI s)), (3, .int 1), (2, .ref (B + 518)), (1, .ref B), (0, .ref 0)]) (st' := [.int 0, .int (nI s), .ref B]) rfl ?_
  refine mi_callV okL_law_5 (mc := 0) (ms := 0) (mc' := 0) (ms' := 0) (b := B) (As := [.int (nI s), .int 0]) (st := []) rfl cv_RL_66 rfl (by decide) (show 6 ≤ _ by have := hw.z; omega) (show _ < h.1 by have := hw.z; omega) hw.ph rfl (Nat.le_of_ble_eq_true rfl) (c_ofSector_0 hw hs (n := 3) (by decide) (by obtain ⟨⟨nx, c, e1, -⟩, -⟩ := hI; rw [e1]; rfl)) (fun r h1 q9 => ?_)
  obtain ⟨rfl, e9⟩ := q9; have e9 := e9.symm; subst e9
  change mi_W pP X kL_law 7 0 0 486 [(7, .int ((wr_n q.2.1 s) + 1)), (10, .int 1), (9, .int 2), (8, .int (nI s)), (3, .int 1), (2, .ref (B + 518)), (1, .ref B), (0, .ref 0)] [.int (ph_tof q.2.2.2.1 (nI s) 0 3)] h _
  refine mi_if_lt okL_law_5 rfl rfl (fun c_486 => absurd c_486 (tof_pos hI.2.1 hI.2.2.1 hs hwr)) (fun c_486 => ?_)
  refine mi_blk okL_law_5 1 (pc' := 491) (lv' := [(7, .int ((wr_n q.2.1 s) + 1)), (10, .int 1), (9, .int 2), (8, .int (nI s)), (3, .int 1), (2, .ref (B + 518)), (1, .ref B), (0, .ref 0)]) (st' := [.int 1]) rfl ?_
  refine mi_if_ne okL_law_5 rfl rfl (fun c_491 => ?_) (fun c_491 => absurd c_491 (by decide))
  refine mi_blk okL_law_6 1 (pc' := 504) (lv' := [(7, .int ((wr_n q.2.1 s) + 1)), (10, .int 1), (9, .int 2), (8, .int (nI s)), (3, .int 1), (2, .ref (B + 518)), (1, .ref B), (0, .ref 0)]) (st' := [.int 1]) rfl ?_
  refine mi_if_eq okL_law_6 rfl rfl (fun c_504 => absurd c_504 (by decide)) (fun c_504 => ?_)
  refine mi_blk okL_law_6 1 (pc' := 508) (lv' := [(7, .int ((wr_n q.2.1 s) + 1)), (10, .int 1), (9, .int 2), (8, .int (nI s)), (3, .int 1), (2, .ref (B + 518)), (1, .ref B), (0, .ref 0)]) (st' := [.int 1]) rfl ?_
  refine mi_if_ne okL_law_6 rfl rfl (fun c_508 => ?_) (fun c_508 => absurd c_508 (by decide))
  refine mi_blk okL_law_6 1 (pc' := 519) (lv' := [(7, .int ((wr_n q.2.1 s) + 1)), (10, .int 1), (9, .int 2), (8, .int (nI s)), (3, .int 1), (2, .ref (B + 518)), (1, .ref B), (0, .ref 0)]) (st' := [.int 1]) rfl ?_
  refine mi_if_eq okL_law_6 rfl rfl (fun c_519 => absurd c_519 (by decide)) (fun c_519 => ?_)
  refine mi_blk okL_law_6 1 (pc' := 524) (lv' := [(7, .int ((wr_n q.2.1 s) + 1)), (10, .int 1), (9, .int 2), (8, .int (nI s)), (3, .int 1), (2, .ref (B + 518)), (1, .ref B), (0, .ref 0)]) (st' := [.int 2]) rfl ?_
  refine mi_if_ne okL_law_6 rfl rfl (fun c_524 => ?_) (fun c_524 => absurd c_524 (by decide))
  refine mi_blk okL_law_6 1 (pc' := 550) (lv' := [(7, .int ((wr_n q.2.1 s) + 1)), (10, .int 1), (9, .int 2), (8, .int (nI s)), (3, .int 1), (2, .ref (B + 518)), (1, .ref B), (0, .ref 0)]) (st' := [.int 1]) rfl ?_
  refine mi_if_eq okL_law_6 rfl rfl (fun c_550 => absurd c_550 (by decide)) (fun c_550 => ?_)
  refine mi_blk okL_law_6 3 (pc' := 557) (lv' := [(7, .int ((wr_n q.2.1 s) + 1)), (10, .int 1), (9, .int 2), (8, .int (nI s)), (3, .int 1), (2, .ref (B + 518)), (1, .ref B), (0, .ref 0)]) (st' := [.int 4, .int (nI s), .ref B]) rfl ?_
  refine mi_callV okL_law_6 (mc := 0) (ms := 0) (mc' := 0) (ms' := 0) (b := B) (As := [.int (nI s), .int 4]) (st := []) rfl cv_RL_66 rfl (by decide) (show 6 ≤ _ by have := hw.z; omega) (show _ < h.1 by have := hw.z; omega) hw.ph rfl (Nat.le_of_ble_eq_true rfl) (c_ofSector_4 hw hs) (fun r h1 q9 => ?_)
  obtain ⟨rfl, e9⟩ := q9; have e9 := e9.symm; subst e9
  change mi_W pP X kL_law 7 0 0 560 [(7, .int ((wr_n q.2.1 s) + 1)), (10, .int 1), (9, .int 2), (8, .int (nI s)), (3, .int 1), (2, .ref (B + 518)), (1, .ref B), (0, .ref 0)] [.int ((q.2.1 s).2.2.2.2.2.1)] h _
  refine mi_blk okL_law_6 1 (pc' := 563) (lv' := [(7, .int ((wr_n q.2.1 s) + 1)), (10, .int 1), (9, .int 2), (8, .int (nI s)), (3, .int 1), (2, .ref (B + 518)), (1, .ref B), (0, .ref 0)]) (st' := [.int 128, .int ((q.2.1 s).2.2.2.2.2.1)]) rfl ?_
  refine mi_ic_gt okL_law_6 rfl rfl (fun c_563 => absurd c_563 (mi_le_nlt (sc_marks (hI.2.2.2.2.1 s hs) hwr).1)) (fun c_563 => ?_)
  refine mi_blk okL_law_6 3 (pc' := 570) (lv' := [(7, .int ((wr_n q.2.1 s) + 1)), (10, .int 1), (9, .int 2), (8, .int (nI s)), (3, .int 1), (2, .ref (B + 518)), (1, .ref B), (0, .ref 0)]) (st' := [.int 5, .int (nI s), .ref B]) rfl ?_
  refine mi_callV okL_law_6 (mc := 0) (ms := 0) (mc' := 0) (ms' := 0) (b := B) (As := [.int (nI s), .int 5]) (st := []) rfl cv_RL_66 rfl (by decide) (show 6 ≤ _ by have := hw.z; omega) (show _ < h.1 by have := hw.z; omega) hw.ph rfl (Nat.le_of_ble_eq_true rfl) (c_ofSector_5 hw hs) (fun r h1 q9 => ?_)
  obtain ⟨rfl, e9⟩ := q9; have e9 := e9.symm; subst e9
  change mi_W pP X kL_law 7 0 0 573 [(7, .int ((wr_n q.2.1 s) + 1)), (10, .int 1), (9, .int 2), (8, .int (nI s)), (3, .int 1), (2, .ref (B + 518)), (1, .ref B), (0, .ref 0)] [.int ((q.2.1 s).2.2.2.2.2.2.1)] h _
  refine mi_abs okL_law_6 rfl mm_RL_72 ms_abs mz_Math mc_abs (by decide) (Nat.le_of_ble_eq_true rfl) ?_
  refine mi_blk okL_law_6 1 (pc' := 577) (lv' := [(7, .int ((wr_n q.2.1 s) + 1)), (10, .int 1), (9, .int 2), (8, .int (nI s)), (3, .int 1), (2, .ref (B + 518)), (1, .ref B), (0, .ref 0)]) (st' := [.ref B, .int (if 0 ≤ (q.2.1 s).2.2.2.2.2.2.1 then (q.2.1 s).2.2.2.2.2.2.1 else 0 - ((q.2.1 s).2.2.2.2.2.2.1))]) rfl ?_
  refine mi_blk okL_law_7 1 (pc' := 579) (lv' := [(7, .int ((wr_n q.2.1 s) + 1)), (10, .int 1), (9, .int 2), (8, .int (nI s)), (3, .int 1), (2, .ref (B + 518)), (1, .ref B), (0, .ref 0)]) (st' := [.int (nI s), .ref B, .int (if 0 ≤ (q.2.1 s).2.2.2.2.2.2.1 then (q.2.1 s).2.2.2.2.2.2.1 else 0 - ((q.2.1 s).2.2.2.2.2.2.1))]) rfl ?_
  refine mi_blk okL_law_7 1 (pc' := 581) (lv' := [(7, .int ((wr_n q.2.1 s) + 1)), (10, .int 1), (9, .int 2), (8, .int (nI s)), (3, .int 1), (2, .ref (B + 518)), (1, .ref B), (0, .ref 0)]) (st' := [.int 6, .int (nI s), .ref B, .int (if 0 ≤ (q.2.1 s).2.2.2.2.2.2.1 then (q.2.1 s).2.2.2.2.2.2.1 else 0 - ((q.2.1 s).2.2.2.2.2.2.1))]) rfl ?_
  refine mi_callV okL_law_7 (mc := 0) (ms := 0) (mc' := 0) (ms' := 0) (b := B) (As := [.int (nI s), .int 6]) (st := [.int (if 0 ≤ (q.2.1 s).2.2.2.2.2.2.1 then (q.2.1 s).2.2.2.2.2.2.1 else 0 - ((q.2.1 s).2.2.2.2.2.2.1))]) rfl cv_RL_66 rfl (by decide) (show 6 ≤ _ by have := hw.z; omega) (show _ < h.1 by have := hw.z; omega) hw.ph rfl (Nat.le_of_ble_eq_true rfl) (c_ofSector_6 hw hs) (fun r h1 q9 => ?_)
  obtain ⟨rfl, e9⟩ := q9; have e9 := e9.symm; subst e9
  change mi_W pP X kL_law 7 0 0 584 [(7, .int ((wr_n q.2.1 s) + 1)), (10, .int 1), (9, .int 2), (8, .int (nI s)), (3, .int 1), (2, .ref (B + 518)), (1, .ref B), (0, .ref 0)] [.int ((q.2.1 s).2.2.2.2.2.2.2), .int (if 0 ≤ (q.2.1 s).2.2.2.2.2.2.1 then (q.2.1 s).2.2.2.2.2.2.1 else 0 - ((q.2.1 s).2.2.2.2.2.2.1))] h _
  refine mi_ic_le okL_law_7 rfl rfl (fun c_584 => ?_) (fun c_584 => absurd (sc_marks (hI.2.2.2.2.1 s hs) hwr).2 c_584)
  refine mi_blk okL_law_7 1 (pc' := 591) (lv' := [(7, .int ((wr_n q.2.1 s) + 1)), (10, .int 1), (9, .int 2), (8, .int (nI s)), (3, .int 1), (2, .ref (B + 518)), (1, .ref B), (0, .ref 0)]) (st' := [.int 2]) rfl ?_
  refine mi_if_ne okL_law_7 rfl rfl (fun c_591 => ?_) (fun c_591 => absurd c_591 (by decide))
  refine mi_blk okL_law_7 2 (pc' := 424) (lv' := [(8, .int ((nI s) + 1)), (7, .int ((wr_n q.2.1 s) + 1)), (10, .int 1), (9, .int 2), (3, .int 1), (2, .ref (B + 518)), (1, .ref B), (0, .ref 0)]) (st' := []) rfl ?_
  rw [← nI_succ]
  have ew : wr_n q.2.1 (s + 1) = wr_n q.2.1 s + 1 := if_neg hwr
  exact mi_WX.locs (by rw [ew]; simp) (kk _ _ hL hI rfl)
theorem w_see {X : mi_X} (hX1 : mi_X1 X) {B : Nat} {q : ph_T} {to : Nat → Int64} {rot : Int32} {h : mi_H} (hL : LH B q to h) (hI : LI 80 q to rot) {s : Nat} (hs : s < 240) {Q : Option Value → mi_H → Prop} (kk : ∀ (q' : ph_T) (h' : mi_H), LH B q' to h' → LI 80 q' to rot → q'.2.1 = q.2.1 → mi_W pP X kL_law 7 0 0 424 [(8, .int (nI (s + 1))), (7, .int (wr_n q.2.1 (s + 1))), (3, .int rot), (2, .ref (B + 518)), (1, .ref B), (0, .ref 0)] [] h' Q) : mi_W pP X kL_law 7 0 0 432 [(8, .int (nI s)), (7, .int (wr_n q.2.1 s)), (3, .int rot), (2, .ref (B + 518)), (1, .ref B), (0, .ref 0)] [] h Q := by
  have hsc := hI.2.2.2.2.1 s hs
  by_cases hwr : (q.2.1 s).1 = 0
  · exact w_see_0_r_2 hX1 hL hI hs hwr (hsc.1 hwr) kk
  · rcases hI.2.2.2.2.2 with hr | hr
    · subst hr
      obtain ⟨g1, g2⟩ := sc_good hs hsc hwr
      rcases sc_st hsc with h0 | h0 | h0
      · exact w_see_1_0_0 hX1 hL hI hs hwr h0 (g2 h0) kk
      · exact absurd h0 g1
      · exact w_see_1_0_2 hX1 hL hI hs hwr h0 kk
    · subst hr
      rcases sc_st hsc with h0 | h0 | h0
      · exact w_see_1_1_0 hX1 hL hI hs hwr h0 kk
      · exact w_see_1_1_1 hX1 hL hI hs hwr h0 kk
      · exact w_see_1_1_2 hX1 hL hI hs hwr h0 kk
set_option maxHeartbeats 4000000 in
set_option maxRecDepth 100000 in
theorem w_sees {X : mi_X} (hX1 : mi_X1 X) {B : Nat} {to : Nat → Int64} {rot : Int32} {Q : Option Value → mi_H → Prop} (kk : ∀ (q : ph_T) (h : mi_H), LH B q to h → LI 80 q to rot → mi_W pP X kL_law 7 0 0 612 [(8, .int (nI 240)), (7, .int (wr_n q.2.1 240)), (3, .int rot), (2, .ref (B + 518)), (1, .ref B), (0, .ref 0)] [] h Q) : ∀ (m s : Nat), s + m = 240 → ∀ (q : ph_T) (h : mi_H), LH B q to h → LI 80 q to rot → mi_W pP X kL_law 7 0 0 424 [(8, .int (nI s)), (7, .int (wr_n q.2.1 s)), (3, .int rot), (2, .ref (B + 518)), (1, .ref B), (0, .ref 0)] [] h Q := by
  intro m
  induction m with
  | zero =>
    intro s hs q h hL hI
    obtain rfl : s = 240 := by omega
    have hw := hL.1
    refine mi_blk okL_law_5 2 (pc' := 429) (lv' := [(8, .int (nI 240)), (7, .int (wr_n q.2.1 240)), (3, .int rot), (2, .ref (B + 518)), (1, .ref B), (0, .ref 0)]) (st' := [.int 240, .int (nI 240)]) rfl ?_
    refine mi_ic_ge okL_law_5 rfl rfl (fun c_429 => ?_) (fun c_429 => absurd (by decide) c_429)
    exact kk q h hL hI
  | succ m ih =>
    intro s hs q h hL hI
    have hw := hL.1
    refine mi_blk okL_law_5 2 (pc' := 429) (lv' := [(8, .int (nI s)), (7, .int (wr_n q.2.1 s)), (3, .int rot), (2, .ref (B + 518)), (1, .ref B), (0, .ref 0)]) (st' := [.int 240, .int (nI s)]) rfl ?_
    refine mi_ic_ge okL_law_5 rfl rfl (fun c_429 => absurd c_429 (nI_ge (a := s) (b := 240) (by omega) (by decide))) (fun c_429 => ?_)
    exact w_see hX1 hL hI (by omega) (fun q' h' a1 a2 a3 => by rw [← a3]; exact ih (s + 1) (by omega) q' h' a1 a2)
set_option maxHeartbeats 4000000 in
set_option maxRecDepth 100000 in
theorem w_end {X : mi_X} (hX : mi_X23 X) {B : Nat} {q : ph_T} {to : Nat → Int64} {rot : Int32} {h : mi_H} (hL : LH B q to h) (hI : LI 80 q to rot) : mi_W pP X kL_law 7 0 0 612 [(8, .int (nI 240)), (7, .int (wr_n q.2.1 240)), (3, .int rot), (2, .ref (B + 518)), (1, .ref B), (0, .ref 0)] [] h (fun r _ => r = some (.int 1)) := by
  have hw := hL.1
  obtain ⟨nx, c, hq1, -⟩ := hI.1
  have hse : q.1.1 = nI 1 := by rw [hq1]; rfl
  have hin : ph_in q 3 := by
    refine ⟨by decide, by rw [hq1]; rfl, fun t ht => ?_⟩
    obtain ⟨mo, cl, f, g, u, l, e, -, -, h3, -, -⟩ := hI.tk ht
    exact ⟨f, g, h3, by rw [e], by rw [e]⟩
  have hsum : ph_wo q.2.1 0 240 + ph_wo q.2.1 1 240 + ph_wo q.2.1 2 240 = wr_n q.2.1 240 := wr_sum 240 (fun i hi _ => sc_st (hI.2.2.2.2.1 i hi))
  have htv := ck_tv hI.2.2.2.1.2.2 hI.2.2.2.1.1 (f := 0) 40 (by decide) (by decide)
  have hsub := ck_sub hI.2.2.2.1.2.2 htv.1 (htv.2.1 (by decide))
  refine mi_blk okL_law_7 1 (pc' := 613) (lv' := [(8, .int (nI 240)), (7, .int (wr_n q.2.1 240)), (3, .int rot), (2, .ref (B + 518)), (1, .ref B), (0, .ref 0)]) (st' := [.ref B]) rfl ?_
  refine mi_callV okL_law_7 (mc := 0) (ms := 0) (mc' := 0) (ms' := 0) (b := B) (As := []) (st := []) rfl cv_RL_80 rfl (by decide) (show 6 ≤ _ by have := hw.z; omega) (show _ < h.1 by have := hw.z; omega) hw.ph rfl (Nat.le_of_ble_eq_true rfl) (c_digest hw (fun _ _ _ _ => rfl) hin (m := 1) (by decide) hse) (fun r h1 q9 => ?_)
  obtain ⟨rfl, e9⟩ := q9; have e9 := e9.symm; subst e9
  change mi_W pP X kL_law 7 0 0 616 [(8, .int (nI 240)), (7, .int (wr_n q.2.1 240)), (3, .int rot), (2, .ref (B + 518)), (1, .ref B), (0, .ref 0)] [.long (ph_dig q 3 1)] h _
  refine mi_blk okL_law_7 3 (pc' := 620) (lv' := [(8, .long (ph_dig q 3 1)), (7, .int (wr_n q.2.1 240)), (3, .int rot), (2, .ref (B + 518)), (1, .ref B), (0, .ref 0)]) (st' := [.int 4, .ref B]) rfl ?_
  refine mi_callV okL_law_7 (mc := 0) (ms := 0) (mc' := 0) (ms' := 0) (b := B) (As := [.int 4]) (st := []) rfl cv_RL_34 rfl (by decide) (show 6 ≤ _ by have := hw.z; omega) (show _ < h.1 by have := hw.z; omega) hw.ph rfl (Nat.le_of_ble_eq_true rfl) (c_many_4 hw) (fun r h1 q9 => ?_)
  obtain ⟨rfl, e9⟩ := q9; have e9 := e9.symm; subst e9
  change mi_W pP X kL_law 7 0 0 623 [(8, .long (ph_dig q 3 1)), (7, .int (wr_n q.2.1 240)), (3, .int rot), (2, .ref (B + 518)), (1, .ref B), (0, .ref 0)] [.int (ph_wo q.2.1 0 240 + ph_wo q.2.1 1 240 + ph_wo q.2.1 2 240)] h _
  refine mi_blk okL_law_7 1 (pc' := 625) (lv' := [(8, .long (ph_dig q 3 1)), (7, .int (wr_n q.2.1 240)), (3, .int rot), (2, .ref (B + 518)), (1, .ref B), (0, .ref 0)]) (st' := [.int (wr_n q.2.1 240), .int (ph_wo q.2.1 0 240 + ph_wo q.2.1 1 240 + ph_wo q.2.1 2 240)]) rfl ?_
  refine mi_ic_ne okL_law_7 rfl rfl (fun c_625 => absurd hsum c_625) (fun c_625 => ?_)
  refine mi_blk okL_law_7 2 (pc' := 630) (lv' := [(8, .long (ph_dig q 3 1)), (7, .int (wr_n q.2.1 240)), (3, .int rot), (2, .ref (B + 518)), (1, .ref B), (0, .ref 0)]) (st' := [.int 5, .ref B]) rfl ?_
  refine mi_callV okL_law_7 (mc := 0) (ms := 0) (mc' := 0) (ms' := 0) (b := B) (As := [.int 5]) (st := []) rfl cv_RL_34 rfl (by decide) (show 6 ≤ _ by have := hw.z; omega) (show _ < h.1 by have := hw.z; omega) hw.ph rfl (Nat.le_of_ble_eq_true rfl) (c_many_5 hw) (fun r h1 q9 => ?_)
  obtain ⟨rfl, e9⟩ := q9; have e9 := e9.symm; subst e9
  change mi_W pP X kL_law 7 0 0 633 [(8, .long (ph_dig q 3 1)), (7, .int (wr_n q.2.1 240)), (3, .int rot), (2, .ref (B + 518)), (1, .ref B), (0, .ref 0)] [.int (ph_wo q.2.1 0 240)] h _
  refine mi_blk okL_law_7 2 (pc' := 636) (lv' := [(8, .long (ph_dig q 3 1)), (7, .int (wr_n q.2.1 240)), (3, .int rot), (2, .ref (B + 518)), (1, .ref B), (0, .ref 0)]) (st' := [.int 6, .ref B, .int (ph_wo q.2.1 0 240)]) rfl ?_
  refine mi_callV okL_law_7 (mc := 0) (ms := 0) (mc' := 0) (ms' := 0) (b := B) (As := [.int 6]) (st := [.int (ph_wo q.2.1 0 240)]) rfl cv_RL_34 rfl (by decide) (show 6 ≤ _ by have := hw.z; omega) (show _ < h.1 by have := hw.z; omega) hw.ph rfl (Nat.le_of_ble_eq_true rfl) (c_many_6 hw) (fun r h1 q9 => ?_)
  obtain ⟨rfl, e9⟩ := q9; have e9 := e9.symm; subst e9
  change mi_W pP X kL_law 7 0 0 639 [(8, .long (ph_dig q 3 1)), (7, .int (wr_n q.2.1 240)), (3, .int rot), (2, .ref (B + 518)), (1, .ref B), (0, .ref 0)] [.int (ph_wo q.2.1 1 240), .int (ph_wo q.2.1 0 240)] h _
  refine mi_blk okL_law_7 3 (pc' := 643) (lv' := [(8, .long (ph_dig q 3 1)), (7, .int (wr_n q.2.1 240)), (3, .int rot), (2, .ref (B + 518)), (1, .ref B), (0, .ref 0)]) (st' := [.int 7, .ref B, .int ((ph_wo q.2.1 0 240) + (ph_wo q.2.1 1 240))]) rfl ?_
  refine mi_callV okL_law_7 (mc := 0) (ms := 0) (mc' := 0) (ms' := 0) (b := B) (As := [.int 7]) (st := [.int ((ph_wo q.2.1 0 240) + (ph_wo q.2.1 1 240))]) rfl cv_RL_34 rfl (by decide) (show 6 ≤ _ by have := hw.z; omega) (show _ < h.1 by have := hw.z; omega) hw.ph rfl (Nat.le_of_ble_eq_true rfl) (c_many_7 hw) (fun r h1 q9 => ?_)
  obtain ⟨rfl, e9⟩ := q9; have e9 := e9.symm; subst e9
  change mi_W pP X kL_law 7 0 0 646 [(8, .long (ph_dig q 3 1)), (7, .int (wr_n q.2.1 240)), (3, .int rot), (2, .ref (B + 518)), (1, .ref B), (0, .ref 0)] [.int (ph_wo q.2.1 2 240), .int ((ph_wo q.2.1 0 240) + (ph_wo q.2.1 1 240))] h _
  refine mi_blk okL_law_7 2 (pc' := 649) (lv' := [(8, .long (ph_dig q 3 1)), (7, .int (wr_n q.2.1 240)), (3, .int rot), (2, .ref (B + 518)), (1, .ref B), (0, .ref 0)]) (st' := [.int (wr_n q.2.1 240), .int (((ph_wo q.2.1 0 240) + (ph_wo q.2.1 1 240)) + (ph_wo q.2.1 2 240))]) rfl ?_
  refine mi_ic_ne okL_law_7 rfl rfl (fun c_649 => absurd hsum c_649) (fun c_649 => ?_)
  refine mi_blk okL_law_7 2 (pc' := 654) (lv' := [(8, .long (ph_dig q 3 1)), (7, .int (wr_n q.2.1 240)), (3, .int rot), (2, .ref (B + 518)), (1, .ref B), (0, .ref 0)]) (st' := [.int 0, .ref B]) rfl ?_
  refine mi_blk okL_law_8 1 (pc' := 656) (lv' := [(8, .long (ph_dig q 3 1)), (7, .int (wr_n q.2.1 240)), (3, .int rot), (2, .ref (B + 518)), (1, .ref B), (0, .ref 0)]) (st' := [.int 40, .int 0, .ref B]) rfl ?_
  refine mi_callV okL_law_8 (mc := 0) (ms := 0) (mc' := 0) (ms' := 0) (b := B) (As := [.int 0, .int 40]) (st := []) rfl cv_RL_84 rfl (by decide) (show 6 ≤ _ by have := hw.z; omega) (show _ < h.1 by have := hw.z; omega) hw.ph rfl (Nat.le_of_ble_eq_true rfl) (c_wouldTake hX hw hI.2.2.2.1.1 (f := 0) (g := 40) (m := 40) (by decide) (by decide) (by decide) (by decide) (by decide) (ck_tv hI.2.2.2.1.2.2 hI.2.2.2.1.1 40 (by decide) (by decide)).2.2 hsub.1) (fun r h1 q9 => ?_)
  obtain ⟨rfl, e9⟩ := q9; have e9 := e9.symm; subst e9
  change mi_W pP X kL_law 7 0 0 659 [(8, .long (ph_dig q 3 1)), (7, .int (wr_n q.2.1 240)), (3, .int rot), (2, .ref (B + 518)), (1, .ref B), (0, .ref 0)] [.double (FP.dsub (tv q.2.2.2.2.1.2.1 q.2.2.2.2.1.1 0 40).1 q.2.2.2.2.1.2.1)] h _
  refine mi_blk okL_law_8 2 (pc' := 661) (lv' := [(8, .long (ph_dig q 3 1)), (7, .int (wr_n q.2.1 240)), (3, .int rot), (2, .ref (B + 518)), (1, .ref B), (0, .ref 0)]) (st' := [.int (Op.cmpValue (FP.dcmp (FP.dsub (tv q.2.2.2.2.1.2.1 q.2.2.2.2.1.1 0 40).1 q.2.2.2.2.1.2.1) FP.dconst0) .l)]) rfl ?_
  refine mi_if_le okL_law_8 rfl rfl (fun c_661 => absurd c_661 (by rw [hsub.2]; decide)) (fun c_661 => ?_)
  refine mi_blk okL_law_8 1 (pc' := 665) (lv' := [(8, .long (ph_dig q 3 1)), (7, .int (wr_n q.2.1 240)), (3, .int rot), (2, .ref (B + 518)), (1, .ref B), (0, .ref 0)]) (st' := [.ref B]) rfl ?_
  refine mi_callV okL_law_8 (mc := 0) (ms := 0) (mc' := 0) (ms' := 0) (b := B) (As := []) (st := []) rfl cv_RL_80 rfl (by decide) (show 6 ≤ _ by have := hw.z; omega) (show _ < h.1 by have := hw.z; omega) hw.ph rfl (Nat.le_of_ble_eq_true rfl) (c_digest hw (fun _ _ _ _ => rfl) hin (m := 1) (by decide) hse) (fun r h1 q9 => ?_)
  obtain ⟨rfl, e9⟩ := q9; have e9 := e9.symm; subst e9
  change mi_W pP X kL_law 7 0 0 668 [(8, .long (ph_dig q 3 1)), (7, .int (wr_n q.2.1 240)), (3, .int rot), (2, .ref (B + 518)), (1, .ref B), (0, .ref 0)] [.long (ph_dig q 3 1)] h _
  refine mi_blk okL_law_8 2 (pc' := 671) (lv' := [(8, .long (ph_dig q 3 1)), (7, .int (wr_n q.2.1 240)), (3, .int rot), (2, .ref (B + 518)), (1, .ref B), (0, .ref 0)]) (st' := [.int (lg_cmp (ph_dig q 3 1) (ph_dig q 3 1))]) rfl ?_
  refine mi_if_ne okL_law_8 rfl rfl (fun c_671 => absurd (lg_cmp_self _) c_671) (fun c_671 => ?_)
  refine mi_blk okL_law_8 2 (pc' := 679) (lv' := [(8, .long (ph_dig q 3 1)), (7, .int (wr_n q.2.1 240)), (3, .int rot), (2, .ref (B + 518)), (1, .ref B), (0, .ref 0)]) (st' := [.int 1]) rfl ?_
  exact mi_ret_i okL_law_8 rfl rfl rfl rfl
