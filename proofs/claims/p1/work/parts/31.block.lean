def sp_n (m : Int64) : Nat → Int64
  | 0 => 0
  | k + 1 => bl_put (sp_n m k) (bl_pl (nI k)) ((mi_lushr m (4 * nI k)).toInt32 &&& 15)
def sp_r (v : Int64) : Nat → Int64
  | 0 => v
  | k + 1 => bl_put (sp_r v k) (4 * nI k + 3) (bl_par (sp_r v k) (nI k))
def sp_c (v : Int64) : Nat → Int64
  | 0 => v
  | k + 1 => bl_put (sp_c v k) (12 + nI k) (bl_par (sp_c v k) (4 + nI k))
def bl_spread (m : Int64) : Int64 := sp_c (sp_r (sp_n m 9) 3) 4
def ga_n (v : Int64) : Nat → Int64
  | 0 => 0
  | k + 1 => ga_n v k ||| mi_lshl (bl_at v (bl_pl (nI k))).toInt64 (4 * nI k)
set_option maxHeartbeats 4000000 in
set_option maxRecDepth 100000 in
theorem c_spread {X : mi_X} {h : mi_H} {b : Nat} {v : Int64} {e : Int32} (hE : 6 ≤ b) (hb : b < h.1) (hc : h.2 b = bl_c v e) {m : Int64} : mi_S pP X kX1_spread 2 [.ref b, .long m] h 0 0 (fun r h1 => r = none ∧ h1 = mi_set h b (bl_c (bl_spread m) 0)) := by
  refine enX1_spread (Nat.le_of_ble_eq_true rfl) ?_
  refine mi_blk okX1_spread 2 (pc' := 2) (lv' := [(0, .ref b), (1, .long m)]) (st' := [.long 0, .ref b]) rfl ?_
  refine mi_putf' okX1_spread rfl fd_RX1_9 hE hb hc (fs' := [.long 0, .int e]) rfl (Nat.le_of_ble_eq_true rfl) rfl rfl ?_
  refine mi_blk okX1_spread 2 (pc' := 7) (lv' := [(0, .ref b), (1, .long m)]) (st' := [.int 0, .ref b]) rfl ?_
  refine mi_putf' okX1_spread rfl fd_RX1_15 hE hb mi_set_self (fs' := [.long 0, .int 0]) rfl (Nat.le_of_ble_eq_true rfl) rfl rfl ?_
  rw [mi_set_set]
  refine mi_blk okX1_spread 2 (pc' := 12) (lv' := [(3, .int 0), (0, .ref b), (1, .long m)]) (st' := []) rfl ?_
  change mi_W pP X kX1_spread 2 0 0 12 [(3, .int 0), (0, .ref b), (1, .long m)] [] (mi_set h b (bl_c (sp_n m 0) 0)) _
  refine mi_blk okX1_spread 1 (pc' := 13) (lv' := [(3, .int 0), (0, .ref b), (1, .long m)]) (st' := [.int 0]) rfl ?_
  refine mi_blk okX1_spread 1 (pc' := 15) (lv' := [(3, .int 0), (0, .ref b), (1, .long m)]) (st' := [.int 9, .int 0]) rfl ?_
  refine mi_ic_ge okX1_spread rfl rfl (fun c_15 => absurd c_15 (by decide)) (fun c_15 => ?_)
  refine mi_blk okX1_spread 2 (pc' := 20) (lv' := [(3, .int 0), (0, .ref b), (1, .long m)]) (st' := [.int 0, .ref b]) rfl ?_
  refine mi_callS okX1_spread (mc := 0) (ms := 0) (mc' := 0) (ms' := 0) (As := [.int 0]) (st := [.ref b]) rfl cs_RX1_31 rfl (by decide) (Nat.le_of_ble_eq_true rfl) c_placeOf (fun r h1 q => ?_)
  obtain ⟨rfl, e9⟩ := q; have e9 := e9.symm; subst e9
  change mi_W pP X kX1_spread 2 0 0 23 [(3, .int 0), (0, .ref b), (1, .long m)] [.int (bl_pl 0), .ref b] (mi_set h b (bl_c (sp_n m 0) 0)) _
  refine mi_blk okX1_spread 8 (pc' := 32) (lv' := [(3, .int 0), (0, .ref b), (1, .long m)]) (st' := [.int (((mi_lushr m 0).toInt32) &&& 15), .int (bl_pl 0), .ref b]) rfl ?_
  refine mi_callV okX1_spread (mc := 0) (ms := 0) (mc' := 0) (ms' := 0) (b := b) (As := [.int (bl_pl 0), .int (((mi_lushr m 0).toInt32) &&& 15)]) (st := []) rfl cv_RX1_27 rfl (by decide) hE hb mi_set_self rfl (Nat.le_of_ble_eq_true rfl) (c_put (h := mi_set h b (bl_c (sp_n m 0) 0)) hE hb mi_set_self) (fun r h1 q => ?_)
  obtain ⟨rfl, e9⟩ := q; have e9 := e9.symm; subst e9
  change mi_W pP X kX1_spread 2 0 0 35 [(3, .int 0), (0, .ref b), (1, .long m)] [] (mi_set (mi_set h b (bl_c (sp_n m 0) 0)) b (bl_c (bl_put (sp_n m 0) (bl_pl 0) (((mi_lushr m 0).toInt32) &&& 15)) 0)) _
  rw [mi_set_set]
  refine mi_blk okX1_spread 2 (pc' := 12) (lv' := [(3, .int 1), (0, .ref b), (1, .long m)]) (st' := []) rfl ?_
  change mi_W pP X kX1_spread 2 0 0 12 [(3, .int 1), (0, .ref b), (1, .long m)] [] (mi_set h b (bl_c (sp_n m 1) 0)) _
  refine mi_blk okX1_spread 1 (pc' := 13) (lv' := [(3, .int 1), (0, .ref b), (1, .long m)]) (st' := [.int 1]) rfl ?_
  refine mi_blk okX1_spread 1 (pc' := 15) (lv' := [(3, .int 1), (0, .ref b), (1, .long m)]) (st' := [.int 9, .int 1]) rfl ?_
  refine mi_ic_ge okX1_spread rfl rfl (fun c_15 => absurd c_15 (by decide)) (fun c_15 => ?_)
  refine mi_blk okX1_spread 2 (pc' := 20) (lv' := [(3, .int 1), (0, .ref b), (1, .long m)]) (st' := [.int 1, .ref b]) rfl ?_
  refine mi_callS okX1_spread (mc := 0) (ms := 0) (mc' := 0) (ms' := 0) (As := [.int 1]) (st := [.ref b]) rfl cs_RX1_31 rfl (by decide) (Nat.le_of_ble_eq_true rfl) c_placeOf (fun r h1 q => ?_)
  obtain ⟨rfl, e9⟩ := q; have e9 := e9.symm; subst e9
  change mi_W pP X kX1_spread 2 0 0 23 [(3, .int 1), (0, .ref b), (1, .long m)] [.int (bl_pl 1), .ref b] (mi_set h b (bl_c (sp_n m 1) 0)) _
  refine mi_blk okX1_spread 8 (pc' := 32) (lv' := [(3, .int 1), (0, .ref b), (1, .long m)]) (st' := [.int (((mi_lushr m 4).toInt32) &&& 15), .int (bl_pl 1), .ref b]) rfl ?_
  refine mi_callV okX1_spread (mc := 0) (ms := 0) (mc' := 0) (ms' := 0) (b := b) (As := [.int (bl_pl 1), .int (((mi_lushr m 4).toInt32) &&& 15)]) (st := []) rfl cv_RX1_27 rfl (by decide) hE hb mi_set_self rfl (Nat.le_of_ble_eq_true rfl) (c_put (h := mi_set h b (bl_c (sp_n m 1) 0)) hE hb mi_set_self) (fun r h1 q => ?_)
  obtain ⟨rfl, e9⟩ := q; have e9 := e9.symm; subst e9
  change mi_W pP X kX1_spread 2 0 0 35 [(3, .int 1), (0, .ref b), (1, .long m)] [] (mi_set (mi_set h b (bl_c (sp_n m 1) 0)) b (bl_c (bl_put (sp_n m 1) (bl_pl 1) (((mi_lushr m 4).toInt32) &&& 15)) 0)) _
  rw [mi_set_set]
  refine mi_blk okX1_spread 2 (pc' := 12) (lv' := [(3, .int 2), (0, .ref b), (1, .long m)]) (st' := []) rfl ?_
  change mi_W pP X kX1_spread 2 0 0 12 [(3, .int 2), (0, .ref b), (1, .long m)] [] (mi_set h b (bl_c (sp_n m 2) 0)) _
  refine mi_blk okX1_spread 1 (pc' := 13) (lv' := [(3, .int 2), (0, .ref b), (1, .long m)]) (st' := [.int 2]) rfl ?_
  refine mi_blk okX1_spread 1 (pc' := 15) (lv' := [(3, .int 2), (0, .ref b), (1, .long m)]) (st' := [.int 9, .int 2]) rfl ?_
  refine mi_ic_ge okX1_spread rfl rfl (fun c_15 => absurd c_15 (by decide)) (fun c_15 => ?_)
  refine mi_blk okX1_spread 2 (pc' := 20) (lv' := [(3, .int 2), (0, .ref b), (1, .long m)]) (st' := [.int 2, .ref b]) rfl ?_
  refine mi_callS okX1_spread (mc := 0) (ms := 0) (mc' := 0) (ms' := 0) (As := [.int 2]) (st := [.ref b]) rfl cs_RX1_31 rfl (by decide) (Nat.le_of_ble_eq_true rfl) c_placeOf (fun r h1 q => ?_)
  obtain ⟨rfl, e9⟩ := q; have e9 := e9.symm; subst e9
  change mi_W pP X kX1_spread 2 0 0 23 [(3, .int 2), (0, .ref b), (1, .long m)] [.int (bl_pl 2), .ref b] (mi_set h b (bl_c (sp_n m 2) 0)) _
  refine mi_blk okX1_spread 8 (pc' := 32) (lv' := [(3, .int 2), (0, .ref b), (1, .long m)]) (st' := [.int (((mi_lushr m 8).toInt32) &&& 15), .int (bl_pl 2), .ref b]) rfl ?_
  refine mi_callV okX1_spread (mc := 0) (ms := 0) (mc' := 0) (ms' := 0) (b := b) (As := [.int (bl_pl 2), .int (((mi_lushr m 8).toInt32) &&& 15)]) (st := []) rfl cv_RX1_27 rfl (by decide) hE hb mi_set_self rfl (Nat.le_of_ble_eq_true rfl) (c_put (h := mi_set h b (bl_c (sp_n m 2) 0)) hE hb mi_set_self) (fun r h1 q => ?_)
  obtain ⟨rfl, e9⟩ := q; have e9 := e9.symm; subst e9
  change mi_W pP X kX1_spread 2 0 0 35 [(3, .int 2), (0, .ref b), (1, .long m)] [] (mi_set (mi_set h b (bl_c (sp_n m 2) 0)) b (bl_c (bl_put (sp_n m 2) (bl_pl 2) (((mi_lushr m 8).toInt32) &&& 15)) 0)) _
  rw [mi_set_set]
  refine mi_blk okX1_spread 2 (pc' := 12) (lv' := [(3, .int 3), (0, .ref b), (1, .long m)]) (st' := []) rfl ?_
  change mi_W pP X kX1_spread 2 0 0 12 [(3, .int 3), (0, .ref b), (1, .long m)] [] (mi_set h b (bl_c (sp_n m 3) 0)) _
  refine mi_blk okX1_spread 1 (pc' := 13) (lv' := [(3, .int 3), (0, .ref b), (1, .long m)]) (st' := [.int 3]) rfl ?_
  refine mi_blk okX1_spread 1 (pc' := 15) (lv' := [(3, .int 3), (0, .ref b), (1, .long m)]) (st' := [.int 9, .int 3]) rfl ?_
  refine mi_ic_ge okX1_spread rfl rfl (fun c_15 => absurd c_15 (by decide)) (fun c_15 => ?_)
  refine mi_blk okX1_spread 2 (pc' := 20) (lv' := [(3, .int 3), (0, .ref b), (1, .long m)]) (st' := [.int 3, .ref b]) rfl ?_
  refine mi_callS okX1_spread (mc := 0) (ms := 0) (mc' := 0) (ms' := 0) (As := [.int 3]) (st := [.ref b]) rfl cs_RX1_31 rfl (by decide) (Nat.le_of_ble_eq_true rfl) c_placeOf (fun r h1 q => ?_)
  obtain ⟨rfl, e9⟩ := q; have e9 := e9.symm; subst e9
  change mi_W pP X kX1_spread 2 0 0 23 [(3, .int 3), (0, .ref b), (1, .long m)] [.int (bl_pl 3), .ref b] (mi_set h b (bl_c (sp_n m 3) 0)) _
  refine mi_blk okX1_spread 8 (pc' := 32) (lv' := [(3, .int 3), (0, .ref b), (1, .long m)]) (st' := [.int (((mi_lushr m 12).toInt32) &&& 15), .int (bl_pl 3), .ref b]) rfl ?_
  refine mi_callV okX1_spread (mc := 0) (ms := 0) (mc' := 0) (ms' := 0) (b := b) (As := [.int (bl_pl 3), .int (((mi_lushr m 12).toInt32) &&& 15)]) (st := []) rfl cv_RX1_27 rfl (by decide) hE hb mi_set_self rfl (Nat.le_of_ble_eq_true rfl) (c_put (h := mi_set h b (bl_c (sp_n m 3) 0)) hE hb mi_set_self) (fun r h1 q => ?_)
  obtain ⟨rfl, e9⟩ := q; have e9 := e9.symm; subst e9
  change mi_W pP X kX1_spread 2 0 0 35 [(3, .int 3), (0, .ref b), (1, .long m)] [] (mi_set (mi_set h b (bl_c (sp_n m 3) 0)) b (bl_c (bl_put (sp_n m 3) (bl_pl 3) (((mi_lushr m 12).toInt32) &&& 15)) 0)) _
  rw [mi_set_set]
  refine mi_blk okX1_spread 2 (pc' := 12) (lv' := [(3, .int 4), (0, .ref b), (1, .long m)]) (st' := []) rfl ?_
  change mi_W pP X kX1_spread 2 0 0 12 [(3, .int 4), (0, .ref b), (1, .long m)] [] (mi_set h b (bl_c (sp_n m 4) 0)) _
  refine mi_blk okX1_spread 1 (pc' := 13) (lv' := [(3, .int 4), (0, .ref b), (1, .long m)]) (st' := [.int 4]) rfl ?_
  refine mi_blk okX1_spread 1 (pc' := 15) (lv' := [(3, .int 4), (0, .ref b), (1, .long m)]) (st' := [.int 9, .int 4]) rfl ?_
  refine mi_ic_ge okX1_spread rfl rfl (fun c_15 => absurd c_15 (by decide)) (fun c_15 => ?_)
  refine mi_blk okX1_spread 2 (pc' := 20) (lv' := [(3, .int 4), (0, .ref b), (1, .long m)]) (st' := [.int 4, .ref b]) rfl ?_
  refine mi_callS okX1_spread (mc := 0) (ms := 0) (mc' := 0) (ms' := 0) (As := [.int 4]) (st := [.ref b]) rfl cs_RX1_31 rfl (by decide) (Nat.le_of_ble_eq_true rfl) c_placeOf (fun r h1 q => ?_)
  obtain ⟨rfl, e9⟩ := q; have e9 := e9.symm; subst e9
  change mi_W pP X kX1_spread 2 0 0 23 [(3, .int 4), (0, .ref b), (1, .long m)] [.int (bl_pl 4), .ref b] (mi_set h b (bl_c (sp_n m 4) 0)) _
  refine mi_blk okX1_spread 8 (pc' := 32) (lv' := [(3, .int 4), (0, .ref b), (1, .long m)]) (st' := [.int (((mi_lushr m 16).toInt32) &&& 15), .int (bl_pl 4), .ref b]) rfl ?_
  refine mi_callV okX1_spread (mc := 0) (ms := 0) (mc' := 0) (ms' := 0) (b := b) (As := [.int (bl_pl 4), .int (((mi_lushr m 16).toInt32) &&& 15)]) (st := []) rfl cv_RX1_27 rfl (by decide) hE hb mi_set_self rfl (Nat.le_of_ble_eq_true rfl) (c_put (h := mi_set h b (bl_c (sp_n m 4) 0)) hE hb mi_set_self) (fun r h1 q => ?_)
  obtain ⟨rfl, e9⟩ := q; have e9 := e9.symm; subst e9
  change mi_W pP X kX1_spread 2 0 0 35 [(3, .int 4), (0, .ref b), (1, .long m)] [] (mi_set (mi_set h b (bl_c (sp_n m 4) 0)) b (bl_c (bl_put (sp_n m 4) (bl_pl 4) (((mi_lushr m 16).toInt32) &&& 15)) 0)) _
  rw [mi_set_set]
  refine mi_blk okX1_spread 2 (pc' := 12) (lv' := [(3, .int 5), (0, .ref b), (1, .long m)]) (st' := []) rfl ?_
  change mi_W pP X kX1_spread 2 0 0 12 [(3, .int 5), (0, .ref b), (1, .long m)] [] (mi_set h b (bl_c (sp_n m 5) 0)) _
  refine mi_blk okX1_spread 1 (pc' := 13) (lv' := [(3, .int 5), (0, .ref b), (1, .long m)]) (st' := [.int 5]) rfl ?_
  refine mi_blk okX1_spread 1 (pc' := 15) (lv' := [(3, .int 5), (0, .ref b), (1, .long m)]) (st' := [.int 9, .int 5]) rfl ?_
  refine mi_ic_ge okX1_spread rfl rfl (fun c_15 => absurd c_15 (by decide)) (fun c_15 => ?_)
  refine mi_blk okX1_spread 2 (pc' := 20) (lv' := [(3, .int 5), (0, .ref b), (1, .long m)]) (st' := [.int 5, .ref b]) rfl ?_
  refine mi_callS okX1_spread (mc := 0) (ms := 0) (mc' := 0) (ms' := 0) (As := [.int 5]) (st := [.ref b]) rfl cs_RX1_31 rfl (by decide) (Nat.le_of_ble_eq_true rfl) c_placeOf (fun r h1 q => ?_)
  obtain ⟨rfl, e9⟩ := q; have e9 := e9.symm; subst e9
  change mi_W pP X kX1_spread 2 0 0 23 [(3, .int 5), (0, .ref b), (1, .long m)] [.int (bl_pl 5), .ref b] (mi_set h b (bl_c (sp_n m 5) 0)) _
  refine mi_blk okX1_spread 8 (pc' := 32) (lv' := [(3, .int 5), (0, .ref b), (1, .long m)]) (st' := [.int (((mi_lushr m 20).toInt32) &&& 15), .int (bl_pl 5), .ref b]) rfl ?_
  refine mi_callV okX1_spread (mc := 0) (ms := 0) (mc' := 0) (ms' := 0) (b := b) (As := [.int (bl_pl 5), .int (((mi_lushr m 20).toInt32) &&& 15)]) (st := []) rfl cv_RX1_27 rfl (by decide) hE hb mi_set_self rfl (Nat.le_of_ble_eq_true rfl) (c_put (h := mi_set h b (bl_c (sp_n m 5) 0)) hE hb mi_set_self) (fun r h1 q => ?_)
  obtain ⟨rfl, e9⟩ := q; have e9 := e9.symm; subst e9
  change mi_W pP X kX1_spread 2 0 0 35 [(3, .int 5), (0, .ref b), (1, .long m)] [] (mi_set (mi_set h b (bl_c (sp_n m 5) 0)) b (bl_c (bl_put (sp_n m 5) (bl_pl 5) (((mi_lushr m 20).toInt32) &&& 15)) 0)) _
  rw [mi_set_set]
  refine mi_blk okX1_spread 2 (pc' := 12) (lv' := [(3, .int 6), (0, .ref b), (1, .long m)]) (st' := []) rfl ?_
  change mi_W pP X kX1_spread 2 0 0 12 [(3, .int 6), (0, .ref b), (1, .long m)] [] (mi_set h b (bl_c (sp_n m 6) 0)) _
  refine mi_blk okX1_spread 1 (pc' := 13) (lv' := [(3, .int 6), (0, .ref b), (1, .long m)]) (st' := [.int 6]) rfl ?_
  refine mi_blk okX1_spread 1 (pc' := 15) (lv' := [(3, .int 6), (0, .ref b), (1, .long m)]) (st' := [.int 9, .int 6]) rfl ?_
  refine mi_ic_ge okX1_spread rfl rfl (fun c_15 => absurd c_15 (by decide)) (fun c_15 => ?_)
  refine mi_blk okX1_spread 2 (pc' := 20) (lv' := [(3, .int 6), (0, .ref b), (1, .long m)]) (st' := [.int 6, .ref b]) rfl ?_
  refine mi_callS okX1_spread (mc := 0) (ms := 0) (mc' := 0) (ms' := 0) (As := [.int 6]) (st := [.ref b]) rfl cs_RX1_31 rfl (by decide) (Nat.le_of_ble_eq_true rfl) c_placeOf (fun r h1 q => ?_)
  obtain ⟨rfl, e9⟩ := q; have e9 := e9.symm; subst e9
  change mi_W pP X kX1_spread 2 0 0 23 [(3, .int 6), (0, .ref b), (1, .long m)] [.int (bl_pl 6), .ref b] (mi_set h b (bl_c (sp_n m 6) 0)) _
  refine mi_blk okX1_spread 8 (pc' := 32) (lv' := [(3, .int 6), (0, .ref b), (1, .long m)]) (st' := [.int (((mi_lushr m 24).toInt32) &&& 15), .int (bl_pl 6), .ref b]) rfl ?_
  refine mi_callV okX1_spread (mc := 0) (ms := 0) (mc' := 0) (ms' := 0) (b := b) (As := [.int (bl_pl 6), .int (((mi_lushr m 24).toInt32) &&& 15)]) (st := []) rfl cv_RX1_27 rfl (by decide) hE hb mi_set_self rfl (Nat.le_of_ble_eq_true rfl) (c_put (h := mi_set h b (bl_c (sp_n m 6) 0)) hE hb mi_set_self) (fun r h1 q => ?_)
  obtain ⟨rfl, e9⟩ := q; have e9 := e9.symm; subst e9
  change mi_W pP X kX1_spread 2 0 0 35 [(3, .int 6), (0, .ref b), (1, .long m)] [] (mi_set (mi_set h b (bl_c (sp_n m 6) 0)) b (bl_c (bl_put (sp_n m 6) (bl_pl 6) (((mi_lushr m 24).toInt32) &&& 15)) 0)) _
  rw [mi_set_set]
  refine mi_blk okX1_spread 2 (pc' := 12) (lv' := [(3, .int 7), (0, .ref b), (1, .long m)]) (st' := []) rfl ?_
  change mi_W pP X kX1_spread 2 0 0 12 [(3, .int 7), (0, .ref b), (1, .long m)] [] (mi_set h b (bl_c (sp_n m 7) 0)) _
  refine mi_blk okX1_spread 1 (pc' := 13) (lv' := [(3, .int 7), (0, .ref b), (1, .long m)]) (st' := [.int 7]) rfl ?_
  refine mi_blk okX1_spread 1 (pc' := 15) (lv' := [(3, .int 7), (0, .ref b), (1, .long m)]) (st' := [.int 9, .int 7]) rfl ?_
  refine mi_ic_ge okX1_spread rfl rfl (fun c_15 => absurd c_15 (by decide)) (fun c_15 => ?_)
  refine mi_blk okX1_spread 2 (pc' := 20) (lv' := [(3, .int 7), (0, .ref b), (1, .long m)]) (st' := [.int 7, .ref b]) rfl ?_
  refine mi_callS okX1_spread (mc := 0) (ms := 0) (mc' := 0) (ms' := 0) (As := [.int 7]) (st := [.ref b]) rfl cs_RX1_31 rfl (by decide) (Nat.le_of_ble_eq_true rfl) c_placeOf (fun r h1 q => ?_)
  obtain ⟨rfl, e9⟩ := q; have e9 := e9.symm; subst e9
  change mi_W pP X kX1_spread 2 0 0 23 [(3, .int 7), (0, .ref b), (1, .long m)] [.int (bl_pl 7), .ref b] (mi_set h b (bl_c (sp_n m 7) 0)) _
  refine mi_blk okX1_spread 8 (pc' := 32) (lv' := [(3, .int 7), (0, .ref b), (1, .long m)]) (st' := [.int (((mi_lushr m 28).toInt32) &&& 15), .int (bl_pl 7), .ref b]) rfl ?_
  refine mi_callV okX1_spread (mc := 0) (ms := 0) (mc' := 0) (ms' := 0) (b := b) (As := [.int (bl_pl 7), .int (((mi_lushr m 28).toInt32) &&& 15)]) (st := []) rfl cv_RX1_27 rfl (by decide) hE hb mi_set_self rfl (Nat.le_of_ble_eq_true rfl) (c_put (h := mi_set h b (bl_c (sp_n m 7) 0)) hE hb mi_set_self) (fun r h1 q => ?_)
  obtain ⟨rfl, e9⟩ := q; have e9 := e9.symm; subst e9
  change mi_W pP X kX1_spread 2 0 0 35 [(3, .int 7), (0, .ref b), (1, .long m)] [] (mi_set (mi_set h b (bl_c (sp_n m 7) 0)) b (bl_c (bl_put (sp_n m 7) (bl_pl 7) (((mi_lushr m 28).toInt32) &&& 15)) 0)) _
  rw [mi_set_set]
  refine mi_blk okX1_spread 2 (pc' := 12) (lv' := [(3, .int 8), (0, .ref b), (1, .long m)]) (st' := []) rfl ?_
  change mi_W pP X kX1_spread 2 0 0 12 [(3, .int 8), (0, .ref b), (1, .long m)] [] (mi_set h b (bl_c (sp_n m 8) 0)) _
  refine mi_blk okX1_spread 1 (pc' := 13) (lv' := [(3, .int 8), (0, .ref b), (1, .long m)]) (st' := [.int 8]) rfl ?_
  refine mi_blk okX1_spread 1 (pc' := 15) (lv' := [(3, .int 8), (0, .ref b), (1, .long m)]) (st' := [.int 9, .int 8]) rfl ?_
  refine mi_ic_ge okX1_spread rfl rfl (fun c_15 => absurd c_15 (by decide)) (fun c_15 => ?_)
  refine mi_blk okX1_spread 2 (pc' := 20) (lv' := [(3, .int 8), (0, .ref b), (1, .long m)]) (st' := [.int 8, .ref b]) rfl ?_
  refine mi_callS okX1_spread (mc := 0) (ms := 0) (mc' := 0) (ms' := 0) (As := [.int 8]) (st := [.ref b]) rfl cs_RX1_31 rfl (by decide) (Nat.le_of_ble_eq_true rfl) c_placeOf (fun r h1 q => ?_)
  obtain ⟨rfl, e9⟩ := q; have e9 := e9.symm; subst e9
  change mi_W pP X kX1_spread 2 0 0 23 [(3, .int 8), (0, .ref b), (1, .long m)] [.int (bl_pl 8), .ref b] (mi_set h b (bl_c (sp_n m 8) 0)) _
  refine mi_blk okX1_spread 8 (pc' := 32) (lv' := [(3, .int 8), (0, .ref b), (1, .long m)]) (st' := [.int (((mi_lushr m 32).toInt32) &&& 15), .int (bl_pl 8), .ref b]) rfl ?_
  refine mi_callV okX1_spread (mc := 0) (ms := 0) (mc' := 0) (ms' := 0) (b := b) (As := [.int (bl_pl 8), .int (((mi_lushr m 32).toInt32) &&& 15)]) (st := []) rfl cv_RX1_27 rfl (by decide) hE hb mi_set_self rfl (Nat.le_of_ble_eq_true rfl) (c_put (h := mi_set h b (bl_c (sp_n m 8) 0)) hE hb mi_set_self) (fun r h1 q => ?_)
  obtain ⟨rfl, e9⟩ := q; have e9 := e9.symm; subst e9
  change mi_W pP X kX1_spread 2 0 0 35 [(3, .int 8), (0, .ref b), (1, .long m)] [] (mi_set (mi_set h b (bl_c (sp_n m 8) 0)) b (bl_c (bl_put (sp_n m 8) (bl_pl 8) (((mi_lushr m 32).toInt32) &&& 15)) 0)) _
  rw [mi_set_set]
  refine mi_blk okX1_spread 2 (pc' := 12) (lv' := [(3, .int 9), (0, .ref b), (1, .long m)]) (st' := []) rfl ?_
  change mi_W pP X kX1_spread 2 0 0 12 [(3, .int 9), (0, .ref b), (1, .long m)] [] (mi_set h b (bl_c (sp_n m 9) 0)) _
  refine mi_blk okX1_spread 1 (pc' := 13) (lv' := [(3, .int 9), (0, .ref b), (1, .long m)]) (st' := [.int 9]) rfl ?_
  refine mi_blk okX1_spread 1 (pc' := 15) (lv' := [(3, .int 9), (0, .ref b), (1, .long m)]) (st' := [.int 9, .int 9]) rfl ?_
  refine mi_ic_ge okX1_spread rfl rfl (fun c_15 => ?_) (fun c_15 => absurd (by decide) c_15)
  refine mi_blk okX1_spread 2 (pc' := 43) (lv' := [(3, .int 0), (0, .ref b), (1, .long m)]) (st' := []) rfl ?_
  change mi_W pP X kX1_spread 2 0 0 43 [(3, .int 0), (0, .ref b), (1, .long m)] [] (mi_set h b (bl_c (sp_r (sp_n m 9) 0) 0)) _
  refine mi_blk okX1_spread 1 (pc' := 44) (lv' := [(3, .int 0), (0, .ref b), (1, .long m)]) (st' := [.int 0]) rfl ?_
  refine mi_blk okX1_spread 1 (pc' := 45) (lv' := [(3, .int 0), (0, .ref b), (1, .long m)]) (st' := [.int 3, .int 0]) rfl ?_
  refine mi_ic_ge okX1_spread rfl rfl (fun c_45 => absurd c_45 (by decide)) (fun c_45 => ?_)
  refine mi_blk okX1_spread 8 (pc' := 56) (lv' := [(3, .int 0), (0, .ref b), (1, .long m)]) (st' := [.int 0, .ref b, .int 3, .ref b]) rfl ?_
  refine mi_callV okX1_spread (mc := 0) (ms := 0) (mc' := 0) (ms' := 0) (b := b) (As := [.int 0]) (st := [.int 3, .ref b]) rfl cv_RX1_35 rfl (by decide) hE hb mi_set_self rfl (Nat.le_of_ble_eq_true rfl) (c_parityOf (h := mi_set h b (bl_c (sp_r (sp_n m 9) 0) 0)) hE hb mi_set_self) (fun r h1 q => ?_)
  obtain ⟨rfl, e9⟩ := q; have e9 := e9.symm; subst e9
  change mi_W pP X kX1_spread 2 0 0 59 [(3, .int 0), (0, .ref b), (1, .long m)] [.int (bl_par (sp_r (sp_n m 9) 0) 0), .int 3, .ref b] (mi_set h b (bl_c (sp_r (sp_n m 9) 0) 0)) _
  refine mi_callV okX1_spread (mc := 0) (ms := 0) (mc' := 0) (ms' := 0) (b := b) (As := [.int 3, .int (bl_par (sp_r (sp_n m 9) 0) 0)]) (st := []) rfl cv_RX1_27 rfl (by decide) hE hb mi_set_self rfl (Nat.le_of_ble_eq_true rfl) (c_put (h := mi_set h b (bl_c (sp_r (sp_n m 9) 0) 0)) hE hb mi_set_self) (fun r h1 q => ?_)
  obtain ⟨rfl, e9⟩ := q; have e9 := e9.symm; subst e9
  change mi_W pP X kX1_spread 2 0 0 62 [(3, .int 0), (0, .ref b), (1, .long m)] [] (mi_set (mi_set h b (bl_c (sp_r (sp_n m 9) 0) 0)) b (bl_c (bl_put (sp_r (sp_n m 9) 0) 3 (bl_par (sp_r (sp_n m 9) 0) 0)) 0)) _
  rw [mi_set_set]
  refine mi_blk okX1_spread 2 (pc' := 43) (lv' := [(3, .int 1), (0, .ref b), (1, .long m)]) (st' := []) rfl ?_
  change mi_W pP X kX1_spread 2 0 0 43 [(3, .int 1), (0, .ref b), (1, .long m)] [] (mi_set h b (bl_c (sp_r (sp_n m 9) 1) 0)) _
  refine mi_blk okX1_spread 1 (pc' := 44) (lv' := [(3, .int 1), (0, .ref b), (1, .long m)]) (st' := [.int 1]) rfl ?_
  refine mi_blk okX1_spread 1 (pc' := 45) (lv' := [(3, .int 1), (0, .ref b), (1, .long m)]) (st' := [.int 3, .int 1]) rfl ?_
  refine mi_ic_ge okX1_spread rfl rfl (fun c_45 => absurd c_45 (by decide)) (fun c_45 => ?_)
  refine mi_blk okX1_spread 8 (pc' := 56) (lv' := [(3, .int 1), (0, .ref b), (1, .long m)]) (st' := [.int 1, .ref b, .int 7, .ref b]) rfl ?_
  refine mi_callV okX1_spread (mc := 0) (ms := 0) (mc' := 0) (ms' := 0) (b := b) (As := [.int 1]) (st := [.int 7, .ref b]) rfl cv_RX1_35 rfl (by decide) hE hb mi_set_self rfl (Nat.le_of_ble_eq_true rfl) (c_parityOf (h := mi_set h b (bl_c (sp_r (sp_n m 9) 1) 0)) hE hb mi_set_self) (fun r h1 q => ?_)
  obtain ⟨rfl, e9⟩ := q; have e9 := e9.symm; subst e9
  change mi_W pP X kX1_spread 2 0 0 59 [(3, .int 1), (0, .ref b), (1, .long m)] [.int (bl_par (sp_r (sp_n m 9) 1) 1), .int 7, .ref b] (mi_set h b (bl_c (sp_r (sp_n m 9) 1) 0)) _
  refine mi_callV okX1_spread (mc := 0) (ms := 0) (mc' := 0) (ms' := 0) (b := b) (As := [.int 7, .int (bl_par (sp_r (sp_n m 9) 1) 1)]) (st := []) rfl cv_RX1_27 rfl (by decide) hE hb mi_set_self rfl (Nat.le_of_ble_eq_true rfl) (c_put (h := mi_set h b (bl_c (sp_r (sp_n m 9) 1) 0)) hE hb mi_set_self) (fun r h1 q => ?_)
  obtain ⟨rfl, e9⟩ := q; have e9 := e9.symm; subst e9
  change mi_W pP X kX1_spread 2 0 0 62 [(3, .int 1), (0, .ref b), (1, .long m)] [] (mi_set (mi_set h b (bl_c (sp_r (sp_n m 9) 1) 0)) b (bl_c (bl_put (sp_r (sp_n m 9) 1) 7 (bl_par (sp_r (sp_n m 9) 1) 1)) 0)) _
  rw [mi_set_set]
  refine mi_blk okX1_spread 2 (pc' := 43) (lv' := [(3, .int 2), (0, .ref b), (1, .long m)]) (st' := []) rfl ?_
  change mi_W pP X kX1_spread 2 0 0 43 [(3, .int 2), (0, .ref b), (1, .long m)] [] (mi_set h b (bl_c (sp_r (sp_n m 9) 2) 0)) _
  refine mi_blk okX1_spread 1 (pc' := 44) (lv' := [(3, .int 2), (0, .ref b), (1, .long m)]) (st' := [.int 2]) rfl ?_
  refine mi_blk okX1_spread 1 (pc' := 45) (lv' := [(3, .int 2), (0, .ref b), (1, .long m)]) (st' := [.int 3, .int 2]) rfl ?_
  refine mi_ic_ge okX1_spread rfl rfl (fun c_45 => absurd c_45 (by decide)) (fun c_45 => ?_)
  refine mi_blk okX1_spread 8 (pc' := 56) (lv' := [(3, .int 2), (0, .ref b), (1, .long m)]) (st' := [.int 2, .ref b, .int 11, .ref b]) rfl ?_
  refine mi_callV okX1_spread (mc := 0) (ms := 0) (mc' := 0) (ms' := 0) (b := b) (As := [.int 2]) (st := [.int 11, .ref b]) rfl cv_RX1_35 rfl (by decide) hE hb mi_set_self rfl (Nat.le_of_ble_eq_true rfl) (c_parityOf (h := mi_set h b (bl_c (sp_r (sp_n m 9) 2) 0)) hE hb mi_set_self) (fun r h1 q => ?_)
  obtain ⟨rfl, e9⟩ := q; have e9 := e9.symm; subst e9
  change mi_W pP X kX1_spread 2 0 0 59 [(3, .int 2), (0, .ref b), (1, .long m)] [.int (bl_par (sp_r (sp_n m 9) 2) 2), .int 11, .ref b] (mi_set h b (bl_c (sp_r (sp_n m 9) 2) 0)) _
  refine mi_callV okX1_spread (mc := 0) (ms := 0) (mc' := 0) (ms' := 0) (b := b) (As := [.int 11, .int (bl_par (sp_r (sp_n m 9) 2) 2)]) (st := []) rfl cv_RX1_27 rfl (by decide) hE hb mi_set_self rfl (Nat.le_of_ble_eq_true rfl) (c_put (h := mi_set h b (bl_c (sp_r (sp_n m 9) 2) 0)) hE hb mi_set_self) (fun r h1 q => ?_)
  obtain ⟨rfl, e9⟩ := q; have e9 := e9.symm; subst e9
  change mi_W pP X kX1_spread 2 0 0 62 [(3, .int 2), (0, .ref b), (1, .long m)] [] (mi_set (mi_set h b (bl_c (sp_r (sp_n m 9) 2) 0)) b (bl_c (bl_put (sp_r (sp_n m 9) 2) 11 (bl_par (sp_r (sp_n m 9) 2) 2)) 0)) _
  rw [mi_set_set]
  refine mi_blk okX1_spread 2 (pc' := 43) (lv' := [(3, .int 3), (0, .ref b), (1, .long m)]) (st' := []) rfl ?_
  change mi_W pP X kX1_spread 2 0 0 43 [(3, .int 3), (0, .ref b), (1, .long m)] [] (mi_set h b (bl_c (sp_r (sp_n m 9) 3) 0)) _
  refine mi_blk okX1_spread 1 (pc' := 44) (lv' := [(3, .int 3), (0, .ref b), (1, .long m)]) (st' := [.int 3]) rfl ?_
  refine mi_blk okX1_spread 1 (pc' := 45) (lv' := [(3, .int 3), (0, .ref b), (1, .long m)]) (st' := [.int 3, .int 3]) rfl ?_
  refine mi_ic_ge okX1_spread rfl rfl (fun c_45 => ?_) (fun c_45 => absurd (by decide) c_45)
  refine mi_blk okX1_spread 2 (pc' := 70) (lv' := [(3, .int 0), (0, .ref b), (1, .long m)]) (st' := []) rfl ?_
  change mi_W pP X kX1_spread 2 0 0 70 [(3, .int 0), (0, .ref b), (1, .long m)] [] (mi_set h b (bl_c (sp_c (sp_r (sp_n m 9) 3) 0) 0)) _
  refine mi_blk okX1_spread 1 (pc' := 71) (lv' := [(3, .int 0), (0, .ref b), (1, .long m)]) (st' := [.int 0]) rfl ?_
  refine mi_blk okX1_spread 1 (pc' := 72) (lv' := [(3, .int 0), (0, .ref b), (1, .long m)]) (st' := [.int 4, .int 0]) rfl ?_
  refine mi_ic_ge okX1_spread rfl rfl (fun c_72 => absurd c_72 (by decide)) (fun c_72 => ?_)
  refine mi_blk okX1_spread 8 (pc' := 84) (lv' := [(3, .int 0), (0, .ref b), (1, .long m)]) (st' := [.int 4, .ref b, .int 12, .ref b]) rfl ?_
  refine mi_callV okX1_spread (mc := 0) (ms := 0) (mc' := 0) (ms' := 0) (b := b) (As := [.int 4]) (st := [.int 12, .ref b]) rfl cv_RX1_35 rfl (by decide) hE hb mi_set_self rfl (Nat.le_of_ble_eq_true rfl) (c_parityOf (h := mi_set h b (bl_c (sp_c (sp_r (sp_n m 9) 3) 0) 0)) hE hb mi_set_self) (fun r h1 q => ?_)
  obtain ⟨rfl, e9⟩ := q; have e9 := e9.symm; subst e9
  change mi_W pP X kX1_spread 2 0 0 87 [(3, .int 0), (0, .ref b), (1, .long m)] [.int (bl_par (sp_c (sp_r (sp_n m 9) 3) 0) 4), .int 12, .ref b] (mi_set h b (bl_c (sp_c (sp_r (sp_n m 9) 3) 0) 0)) _
  refine mi_callV okX1_spread (mc := 0) (ms := 0) (mc' := 0) (ms' := 0) (b := b) (As := [.int 12, .int (bl_par (sp_c (sp_r (sp_n m 9) 3) 0) 4)]) (st := []) rfl cv_RX1_27 rfl (by decide) hE hb mi_set_self rfl (Nat.le_of_ble_eq_true rfl) (c_put (h := mi_set h b (bl_c (sp_c (sp_r (sp_n m 9) 3) 0) 0)) hE hb mi_set_self) (fun r h1 q => ?_)
  obtain ⟨rfl, e9⟩ := q; have e9 := e9.symm; subst e9
  change mi_W pP X kX1_spread 2 0 0 90 [(3, .int 0), (0, .ref b), (1, .long m)] [] (mi_set (mi_set h b (bl_c (sp_c (sp_r (sp_n m 9) 3) 0) 0)) b (bl_c (bl_put (sp_c (sp_r (sp_n m 9) 3) 0) 12 (bl_par (sp_c (sp_r (sp_n m 9) 3) 0) 4)) 0)) _
  rw [mi_set_set]
  refine mi_blk okX1_spread 2 (pc' := 70) (lv' := [(3, .int 1), (0, .ref b), (1, .long m)]) (st' := []) rfl ?_
  change mi_W pP X kX1_spread 2 0 0 70 [(3, .int 1), (0, .ref b), (1, .long m)] [] (mi_set h b (bl_c (sp_c (sp_r (sp_n m 9) 3) 1) 0)) _
  refine mi_blk okX1_spread 1 (pc' := 71) (lv' := [(3, .int 1), (0, .ref b), (1, .long m)]) (st' := [.int 1]) rfl ?_
  refine mi_blk okX1_spread 1 (pc' := 72) (lv' := [(3, .int 1), (0, .ref b), (1, .long m)]) (st' := [.int 4, .int 1]) rfl ?_
  refine mi_ic_ge okX1_spread rfl rfl (fun c_72 => absurd c_72 (by decide)) (fun c_72 => ?_)
  refine mi_blk okX1_spread 8 (pc' := 84) (lv' := [(3, .int 1), (0, .ref b), (1, .long m)]) (st' := [.int 5, .ref b, .int 13, .ref b]) rfl ?_
  refine mi_callV okX1_spread (mc := 0) (ms := 0) (mc' := 0) (ms' := 0) (b := b) (As := [.int 5]) (st := [.int 13, .ref b]) rfl cv_RX1_35 rfl (by decide) hE hb mi_set_self rfl (Nat.le_of_ble_eq_true rfl) (c_parityOf (h := mi_set h b (bl_c (sp_c (sp_r (sp_n m 9) 3) 1) 0)) hE hb mi_set_self) (fun r h1 q => ?_)
  obtain ⟨rfl, e9⟩ := q; have e9 := e9.symm; subst e9
  change mi_W pP X kX1_spread 2 0 0 87 [(3, .int 1), (0, .ref b), (1, .long m)] [.int (bl_par (sp_c (sp_r (sp_n m 9) 3) 1) 5), .int 13, .ref b] (mi_set h b (bl_c (sp_c (sp_r (sp_n m 9) 3) 1) 0)) _
  refine mi_callV okX1_spread (mc := 0) (ms := 0) (mc' := 0) (ms' := 0) (b := b) (As := [.int 13, .int (bl_par (sp_c (sp_r (sp_n m 9) 3) 1) 5)]) (st := []) rfl cv_RX1_27 rfl (by decide) hE hb mi_set_self rfl (Nat.le_of_ble_eq_true rfl) (c_put (h := mi_set h b (bl_c (sp_c (sp_r (sp_n m 9) 3) 1) 0)) hE hb mi_set_self) (fun r h1 q => ?_)
  obtain ⟨rfl, e9⟩ := q; have e9 := e9.symm; subst e9
  change mi_W pP X kX1_spread 2 0 0 90 [(3, .int 1), (0, .ref b), (1, .long m)] [] (mi_set (mi_set h b (bl_c (sp_c (sp_r (sp_n m 9) 3) 1) 0)) b (bl_c (bl_put (sp_c (sp_r (sp_n m 9) 3) 1) 13 (bl_par (sp_c (sp_r (sp_n m 9) 3) 1) 5)) 0)) _
  rw [mi_set_set]
  refine mi_blk okX1_spread 2 (pc' := 70) (lv' := [(3, .int 2), (0, .ref b), (1, .long m)]) (st' := []) rfl ?_
  change mi_W pP X kX1_spread 2 0 0 70 [(3, .int 2), (0, .ref b), (1, .long m)] [] (mi_set h b (bl_c (sp_c (sp_r (sp_n m 9) 3) 2) 0)) _
  refine mi_blk okX1_spread 1 (pc' := 71) (lv' := [(3, .int 2), (0, .ref b), (1, .long m)]) (st' := [.int 2]) rfl ?_
  refine mi_blk okX1_spread 1 (pc' := 72) (lv' := [(3, .int 2), (0, .ref b), (1, .long m)]) (st' := [.int 4, .int 2]) rfl ?_
  refine mi_ic_ge okX1_spread rfl rfl (fun c_72 => absurd c_72 (by decide)) (fun c_72 => ?_)
  refine mi_blk okX1_spread 8 (pc' := 84) (lv' := [(3, .int 2), (0, .ref b), (1, .long m)]) (st' := [.int 6, .ref b, .int 14, .ref b]) rfl ?_
  refine mi_callV okX1_spread (mc := 0) (ms := 0) (mc' := 0) (ms' := 0) (b := b) (As := [.int 6]) (st := [.int 14, .ref b]) rfl cv_RX1_35 rfl (by decide) hE hb mi_set_self rfl (Nat.le_of_ble_eq_true rfl) (c_parityOf (h := mi_set h b (bl_c (sp_c (sp_r (sp_n m 9) 3) 2) 0)) hE hb mi_set_self) (fun r h1 q => ?_)
  obtain ⟨rfl, e9⟩ := q; have e9 := e9.symm; subst e9
  change mi_W pP X kX1_spread 2 0 0 87 [(3, .int 2), (0, .ref b), (1, .long m)] [.int (bl_par (sp_c (sp_r (sp_n m 9) 3) 2) 6), .int 14, .ref b] (mi_set h b (bl_c (sp_c (sp_r (sp_n m 9) 3) 2) 0)) _
  refine mi_callV okX1_spread (mc := 0) (ms := 0) (mc' := 0) (ms' := 0) (b := b) (As := [.int 14, .int (bl_par (sp_c (sp_r (sp_n m 9) 3) 2) 6)]) (st := []) rfl cv_RX1_27 rfl (by decide) hE hb mi_set_self rfl (Nat.le_of_ble_eq_true rfl) (c_put (h := mi_set h b (bl_c (sp_c (sp_r (sp_n m 9) 3) 2) 0)) hE hb mi_set_self) (fun r h1 q => ?_)
  obtain ⟨rfl, e9⟩ := q; have e9 := e9.symm; subst e9
  change mi_W pP X kX1_spread 2 0 0 90 [(3, .int 2), (0, .ref b), (1, .long m)] [] (mi_set (mi_set h b (bl_c (sp_c (sp_r (sp_n m 9) 3) 2) 0)) b (bl_c (bl_put (sp_c (sp_r (sp_n m 9) 3) 2) 14 (bl_par (sp_c (sp_r (sp_n m 9) 3) 2) 6)) 0)) _
  rw [mi_set_set]
  refine mi_blk okX1_spread 2 (pc' := 70) (lv' := [(3, .int 3), (0, .ref b), (1, .long m)]) (st' := []) rfl ?_
  change mi_W pP X kX1_spread 2 0 0 70 [(3, .int 3), (0, .ref b), (1, .long m)] [] (mi_set h b (bl_c (sp_c (sp_r (sp_n m 9) 3) 3) 0)) _
  refine mi_blk okX1_spread 1 (pc' := 71) (lv' := [(3, .int 3), (0, .ref b), (1, .long m)]) (st' := [.int 3]) rfl ?_
  refine mi_blk okX1_spread 1 (pc' := 72) (lv' := [(3, .int 3), (0, .ref b), (1, .long m)]) (st' := [.int 4, .int 3]) rfl ?_
  refine mi_ic_ge okX1_spread rfl rfl (fun c_72 => absurd c_72 (by decide)) (fun c_72 => ?_)
  refine mi_blk okX1_spread 8 (pc' := 84) (lv' := [(3, .int 3), (0, .ref b), (1, .long m)]) (st' := [.int 7, .ref b, .int 15, .ref b]) rfl ?_
  refine mi_callV okX1_spread (mc := 0) (ms := 0) (mc' := 0) (ms' := 0) (b := b) (As := [.int 7]) (st := [.int 15, .ref b]) rfl cv_RX1_35 rfl (by decide) hE hb mi_set_self rfl (Nat.le_of_ble_eq_true rfl) (c_parityOf (h := mi_set h b (bl_c (sp_c (sp_r (sp_n m 9) 3) 3) 0)) hE hb mi_set_self) (fun r h1 q => ?_)
  obtain ⟨rfl, e9⟩ := q; have e9 := e9.symm; subst e9
  change mi_W pP X kX1_spread 2 0 0 87 [(3, .int 3), (0, .ref b), (1, .long m)] [.int (bl_par (sp_c (sp_r (sp_n m 9) 3) 3) 7), .int 15, .ref b] (mi_set h b (bl_c (sp_c (sp_r (sp_n m 9) 3) 3) 0)) _
  refine mi_callV okX1_spread (mc := 0) (ms := 0) (mc' := 0) (ms' := 0) (b := b) (As := [.int 15, .int (bl_par (sp_c (sp_r (sp_n m 9) 3) 3) 7)]) (st := []) rfl cv_RX1_27 rfl (by decide) hE hb mi_set_self rfl (Nat.le_of_ble_eq_true rfl) (c_put (h := mi_set h b (bl_c (sp_c (sp_r (sp_n m 9) 3) 3) 0)) hE hb mi_set_self) (fun r h1 q => ?_)
  obtain ⟨rfl, e9⟩ := q; have e9 := e9.symm; subst e9
  change mi_W pP X kX1_spread 2 0 0 90 [(3, .int 3), (0, .ref b), (1, .long m)] [] (mi_set (mi_set h b (bl_c (sp_c (sp_r (sp_n m 9) 3) 3) 0)) b (bl_c (bl_put (sp_c (sp_r (sp_n m 9) 3) 3) 15 (bl_par (sp_c (sp_r (sp_n m 9) 3) 3) 7)) 0)) _
  rw [mi_set_set]
  refine mi_blk okX1_spread 2 (pc' := 70) (lv' := [(3, .int 4), (0, .ref b), (1, .long m)]) (st' := []) rfl ?_
  change mi_W pP X kX1_spread 2 0 0 70 [(3, .int 4), (0, .ref b), (1, .long m)] [] (mi_set h b (bl_c (sp_c (sp_r (sp_n m 9) 3) 4) 0)) _
  refine mi_blk okX1_spread 1 (pc' := 71) (lv' := [(3, .int 4), (0, .ref b), (1, .long m)]) (st' := [.int 4]) rfl ?_
  refine mi_blk okX1_spread 1 (pc' := 72) (lv' := [(3, .int 4), (0, .ref b), (1, .long m)]) (st' := [.int 4, .int 4]) rfl ?_
  refine mi_ic_ge okX1_spread rfl rfl (fun c_72 => ?_) (fun c_72 => absurd (by decide) c_72)
  exact mi_ret_v okX1_spread rfl rfl ⟨rfl, rfl⟩
set_option maxHeartbeats 4000000 in
set_option maxRecDepth 100000 in
theorem c_gathered {X : mi_X} {h : mi_H} {b : Nat} {v : Int64} {e : Int32} (hE : 6 ≤ b) (hb : b < h.1) (hc : h.2 b = bl_c v e) : mi_S pP X kX1_gathered 1 [.ref b] h 0 0 (fun r h1 => r = some (.long (ga_n v 9)) ∧ h1 = h) := by
  refine enX1_gathered (Nat.le_of_ble_eq_true rfl) ?_
  refine mi_blk okX1_gathered 4 (pc' := 4) (lv' := [(3, .int 0), (1, .long 0), (0, .ref b)]) (st' := []) rfl ?_
  change mi_W pP X kX1_gathered 1 0 0 4 [(3, .int 0), (1, .long (ga_n v 0)), (0, .ref b)] [] h _
  refine mi_blk okX1_gathered 1 (pc' := 5) (lv' := [(3, .int 0), (1, .long (ga_n v 0)), (0, .ref b)]) (st' := [.int 0]) rfl ?_
  refine mi_blk okX1_gathered 1 (pc' := 7) (lv' := [(3, .int 0), (1, .long (ga_n v 0)), (0, .ref b)]) (st' := [.int 9, .int 0]) rfl ?_
  refine mi_ic_ge okX1_gathered rfl rfl (fun c_7 => absurd c_7 (by decide)) (fun c_7 => ?_)
  refine mi_blk okX1_gathered 3 (pc' := 13) (lv' := [(3, .int 0), (1, .long (ga_n v 0)), (0, .ref b)]) (st' := [.int 0, .ref b, .long (ga_n v 0)]) rfl ?_
  refine mi_callS okX1_gathered (mc := 0) (ms := 0) (mc' := 0) (ms' := 0) (As := [.int 0]) (st := [.ref b, .long (ga_n v 0)]) rfl cs_RX1_31 rfl (by decide) (Nat.le_of_ble_eq_true rfl) c_placeOf (fun r h1 q => ?_)
  obtain ⟨rfl, e9⟩ := q; have e9 := e9.symm; subst e9
  change mi_W pP X kX1_gathered 1 0 0 16 [(3, .int 0), (1, .long (ga_n v 0)), (0, .ref b)] [.int (bl_pl 0), .ref b, .long (ga_n v 0)] h _
  refine mi_callV okX1_gathered (mc := 0) (ms := 0) (mc' := 0) (ms' := 0) (b := b) (As := [.int (bl_pl 0)]) (st := [.long (ga_n v 0)]) rfl cv_RX1_38 rfl (by decide) hE hb hc rfl (Nat.le_of_ble_eq_true rfl) (c_valueAt (h := h) hE hb hc) (fun r h1 q => ?_)
  obtain ⟨rfl, e9⟩ := q; have e9 := e9.symm; subst e9
  change mi_W pP X kX1_gathered 1 0 0 19 [(3, .int 0), (1, .long (ga_n v 0)), (0, .ref b)] [.int (bl_at v (bl_pl 0)), .long (ga_n v 0)] h _
  refine mi_blk okX1_gathered 9 (pc' := 4) (lv' := [(3, .int 1), (1, .long ((ga_n v 0) ||| (mi_lshl ((bl_at v (bl_pl 0)).toInt64) 0))), (0, .ref b)]) (st' := []) rfl ?_
  change mi_W pP X kX1_gathered 1 0 0 4 [(3, .int 1), (1, .long (ga_n v 1)), (0, .ref b)] [] h _
  refine mi_blk okX1_gathered 1 (pc' := 5) (lv' := [(3, .int 1), (1, .long (ga_n v 1)), (0, .ref b)]) (st' := [.int 1]) rfl ?_
  refine mi_blk okX1_gathered 1 (pc' := 7) (lv' := [(3, .int 1), (1, .long (ga_n v 1)), (0, .ref b)]) (st' := [.int 9, .int 1]) rfl ?_
  refine mi_ic_ge okX1_gathered rfl rfl (fun c_7 => absurd c_7 (by decide)) (fun c_7 => ?_)
  refine mi_blk okX1_gathered 3 (pc' := 13) (lv' := [(3, .int 1), (1, .long (ga_n v 1)), (0, .ref b)]) (st' := [.int 1, .ref b, .long (ga_n v 1)]) rfl ?_
  refine mi_callS okX1_gathered (mc := 0) (ms := 0) (mc' := 0) (ms' := 0) (As := [.int 1]) (st := [.ref b, .long (ga_n v 1)]) rfl cs_RX1_31 rfl (by decide) (Nat.le_of_ble_eq_true rfl) c_placeOf (fun r h1 q => ?_)
  obtain ⟨rfl, e9⟩ := q; have e9 := e9.symm; subst e9
  change mi_W pP X kX1_gathered 1 0 0 16 [(3, .int 1), (1, .long (ga_n v 1)), (0, .ref b)] [.int (bl_pl 1), .ref b, .long (ga_n v 1)] h _
  refine mi_callV okX1_gathered (mc := 0) (ms := 0) (mc' := 0) (ms' := 0) (b := b) (As := [.int (bl_pl 1)]) (st := [.long (ga_n v 1)]) rfl cv_RX1_38 rfl (by decide) hE hb hc rfl (Nat.le_of_ble_eq_true rfl) (c_valueAt (h := h) hE hb hc) (fun r h1 q => ?_)
  obtain ⟨rfl, e9⟩ := q; have e9 := e9.symm; subst e9
  change mi_W pP X kX1_gathered 1 0 0 19 [(3, .int 1), (1, .long (ga_n v 1)), (0, .ref b)] [.int (bl_at v (bl_pl 1)), .long (ga_n v 1)] h _
  refine mi_blk okX1_gathered 9 (pc' := 4) (lv' := [(3, .int 2), (1, .long ((ga_n v 1) ||| (mi_lshl ((bl_at v (bl_pl 1)).toInt64) 4))), (0, .ref b)]) (st' := []) rfl ?_
  change mi_W pP X kX1_gathered 1 0 0 4 [(3, .int 2), (1, .long (ga_n v 2)), (0, .ref b)] [] h _
  refine mi_blk okX1_gathered 1 (pc' := 5) (lv' := [(3, .int 2), (1, .long (ga_n v 2)), (0, .ref b)]) (st' := [.int 2]) rfl ?_
  refine mi_blk okX1_gathered 1 (pc' := 7) (lv' := [(3, .int 2), (1, .long (ga_n v 2)), (0, .ref b)]) (st' := [.int 9, .int 2]) rfl ?_
  refine mi_ic_ge okX1_gathered rfl rfl (fun c_7 => absurd c_7 (by decide)) (fun c_7 => ?_)
  refine mi_blk okX1_gathered 3 (pc' := 13) (lv' := [(3, .int 2), (1, .long (ga_n v 2)), (0, .ref b)]) (st' := [.int 2, .ref b, .long (ga_n v 2)]) rfl ?_
  refine mi_callS okX1_gathered (mc := 0) (ms := 0) (mc' := 0) (ms' := 0) (As := [.int 2]) (st := [.ref b, .long (ga_n v 2)]) rfl cs_RX1_31 rfl (by decide) (Nat.le_of_ble_eq_true rfl) c_placeOf (fun r h1 q => ?_)
  obtain ⟨rfl, e9⟩ := q; have e9 := e9.symm; subst e9
  change mi_W pP X kX1_gathered 1 0 0 16 [(3, .int 2), (1, .long (ga_n v 2)), (0, .ref b)] [.int (bl_pl 2), .ref b, .long (ga_n v 2)] h _
  refine mi_callV okX1_gathered (mc := 0) (ms := 0) (mc' := 0) (ms' := 0) (b := b) (As := [.int (bl_pl 2)]) (st := [.long (ga_n v 2)]) rfl cv_RX1_38 rfl (by decide) hE hb hc rfl (Nat.le_of_ble_eq_true rfl) (c_valueAt (h := h) hE hb hc) (fun r h1 q => ?_)
  obtain ⟨rfl, e9⟩ := q; have e9 := e9.symm; subst e9
  change mi_W pP X kX1_gathered 1 0 0 19 [(3, .int 2), (1, .long (ga_n v 2)), (0, .ref b)] [.int (bl_at v (bl_pl 2)), .long (ga_n v 2)] h _
  refine mi_blk okX1_gathered 9 (pc' := 4) (lv' := [(3, .int 3), (1, .long ((ga_n v 2) ||| (mi_lshl ((bl_at v (bl_pl 2)).toInt64) 8))), (0, .ref b)]) (st' := []) rfl ?_
  change mi_W pP X kX1_gathered 1 0 0 4 [(3, .int 3), (1, .long (ga_n v 3)), (0, .ref b)] [] h _
  refine mi_blk okX1_gathered 1 (pc' := 5) (lv' := [(3, .int 3), (1, .long (ga_n v 3)), (0, .ref b)]) (st' := [.int 3]) rfl ?_
  refine mi_blk okX1_gathered 1 (pc' := 7) (lv' := [(3, .int 3), (1, .long (ga_n v 3)), (0, .ref b)]) (st' := [.int 9, .int 3]) rfl ?_
  refine mi_ic_ge okX1_gathered rfl rfl (fun c_7 => absurd c_7 (by decide)) (fun c_7 => ?_)
  refine mi_blk okX1_gathered 3 (pc' := 13) (lv' := [(3, .int 3), (1, .long (ga_n v 3)), (0, .ref b)]) (st' := [.int 3, .ref b, .long (ga_n v 3)]) rfl ?_
  refine mi_callS okX1_gathered (mc := 0) (ms := 0) (mc' := 0) (ms' := 0) (As := [.int 3]) (st := [.ref b, .long (ga_n v 3)]) rfl cs_RX1_31 rfl (by decide) (Nat.le_of_ble_eq_true rfl) c_placeOf (fun r h1 q => ?_)
  obtain ⟨rfl, e9⟩ := q; have e9 := e9.symm; subst e9
  change mi_W pP X kX1_gathered 1 0 0 16 [(3, .int 3), (1, .long (ga_n v 3)), (0, .ref b)] [.int (bl_pl 3), .ref b, .long (ga_n v 3)] h _
  refine mi_callV okX1_gathered (mc := 0) (ms := 0) (mc' := 0) (ms' := 0) (b := b) (As := [.int (bl_pl 3)]) (st := [.long (ga_n v 3)]) rfl cv_RX1_38 rfl (by decide) hE hb hc rfl (Nat.le_of_ble_eq_true rfl) (c_valueAt (h := h) hE hb hc) (fun r h1 q => ?_)
  obtain ⟨rfl, e9⟩ := q; have e9 := e9.symm; subst e9
  change mi_W pP X kX1_gathered 1 0 0 19 [(3, .int 3), (1, .long (ga_n v 3)), (0, .ref b)] [.int (bl_at v (bl_pl 3)), .long (ga_n v 3)] h _
  refine mi_blk okX1_gathered 9 (pc' := 4) (lv' := [(3, .int 4), (1, .long ((ga_n v 3) ||| (mi_lshl ((bl_at v (bl_pl 3)).toInt64) 12))), (0, .ref b)]) (st' := []) rfl ?_
  change mi_W pP X kX1_gathered 1 0 0 4 [(3, .int 4), (1, .long (ga_n v 4)), (0, .ref b)] [] h _
  refine mi_blk okX1_gathered 1 (pc' := 5) (lv' := [(3, .int 4), (1, .long (ga_n v 4)), (0, .ref b)]) (st' := [.int 4]) rfl ?_
  refine mi_blk okX1_gathered 1 (pc' := 7) (lv' := [(3, .int 4), (1, .long (ga_n v 4)), (0, .ref b)]) (st' := [.int 9, .int 4]) rfl ?_
  refine mi_ic_ge okX1_gathered rfl rfl (fun c_7 => absurd c_7 (by decide)) (fun c_7 => ?_)
  refine mi_blk okX1_gathered 3 (pc' := 13) (lv' := [(3, .int 4), (1, .long (ga_n v 4)), (0, .ref b)]) (st' := [.int 4, .ref b, .long (ga_n v 4)]) rfl ?_
  refine mi_callS okX1_gathered (mc := 0) (ms := 0) (mc' := 0) (ms' := 0) (As := [.int 4]) (st := [.ref b, .long (ga_n v 4)]) rfl cs_RX1_31 rfl (by decide) (Nat.le_of_ble_eq_true rfl) c_placeOf (fun r h1 q => ?_)
  obtain ⟨rfl, e9⟩ := q; have e9 := e9.symm; subst e9
  change mi_W pP X kX1_gathered 1 0 0 16 [(3, .int 4), (1, .long (ga_n v 4)), (0, .ref b)] [.int (bl_pl 4), .ref b, .long (ga_n v 4)] h _
  refine mi_callV okX1_gathered (mc := 0) (ms := 0) (mc' := 0) (ms' := 0) (b := b) (As := [.int (bl_pl 4)]) (st := [.long (ga_n v 4)]) rfl cv_RX1_38 rfl (by decide) hE hb hc rfl (Nat.le_of_ble_eq_true rfl) (c_valueAt (h := h) hE hb hc) (fun r h1 q => ?_)
  obtain ⟨rfl, e9⟩ := q; have e9 := e9.symm; subst e9
  change mi_W pP X kX1_gathered 1 0 0 19 [(3, .int 4), (1, .long (ga_n v 4)), (0, .ref b)] [.int (bl_at v (bl_pl 4)), .long (ga_n v 4)] h _
  refine mi_blk okX1_gathered 9 (pc' := 4) (lv' := [(3, .int 5), (1, .long ((ga_n v 4) ||| (mi_lshl ((bl_at v (bl_pl 4)).toInt64) 16))), (0, .ref b)]) (st' := []) rfl ?_
  change mi_W pP X kX1_gathered 1 0 0 4 [(3, .int 5), (1, .long (ga_n v 5)), (0, .ref b)] [] h _
  refine mi_blk okX1_gathered 1 (pc' := 5) (lv' := [(3, .int 5), (1, .long (ga_n v 5)), (0, .ref b)]) (st' := [.int 5]) rfl ?_
  refine mi_blk okX1_gathered 1 (pc' := 7) (lv' := [(3, .int 5), (1, .long (ga_n v 5)), (0, .ref b)]) (st' := [.int 9, .int 5]) rfl ?_
  refine mi_ic_ge okX1_gathered rfl rfl (fun c_7 => absurd c_7 (by decide)) (fun c_7 => ?_)
  refine mi_blk okX1_gathered 3 (pc' := 13) (lv' := [(3, .int 5), (1, .long (ga_n v 5)), (0, .ref b)]) (st' := [.int 5, .ref b, .long (ga_n v 5)]) rfl ?_
  refine mi_callS okX1_gathered (mc := 0) (ms := 0) (mc' := 0) (ms' := 0) (As := [.int 5]) (st := [.ref b, .long (ga_n v 5)]) rfl cs_RX1_31 rfl (by decide) (Nat.le_of_ble_eq_true rfl) c_placeOf (fun r h1 q => ?_)
  obtain ⟨rfl, e9⟩ := q; have e9 := e9.symm; subst e9
  change mi_W pP X kX1_gathered 1 0 0 16 [(3, .int 5), (1, .long (ga_n v 5)), (0, .ref b)] [.int (bl_pl 5), .ref b, .long (ga_n v 5)] h _
  refine mi_callV okX1_gathered (mc := 0) (ms := 0) (mc' := 0) (ms' := 0) (b := b) (As := [.int (bl_pl 5)]) (st := [.long (ga_n v 5)]) rfl cv_RX1_38 rfl (by decide) hE hb hc rfl (Nat.le_of_ble_eq_true rfl) (c_valueAt (h := h) hE hb hc) (fun r h1 q => ?_)
  obtain ⟨rfl, e9⟩ := q; have e9 := e9.symm; subst e9
  change mi_W pP X kX1_gathered 1 0 0 19 [(3, .int 5), (1, .long (ga_n v 5)), (0, .ref b)] [.int (bl_at v (bl_pl 5)), .long (ga_n v 5)] h _
  refine mi_blk okX1_gathered 9 (pc' := 4) (lv' := [(3, .int 6), (1, .long ((ga_n v 5) ||| (mi_lshl ((bl_at v (bl_pl 5)).toInt64) 20))), (0, .ref b)]) (st' := []) rfl ?_
  change mi_W pP X kX1_gathered 1 0 0 4 [(3, .int 6), (1, .long (ga_n v 6)), (0, .ref b)] [] h _
  refine mi_blk okX1_gathered 1 (pc' := 5) (lv' := [(3, .int 6), (1, .long (ga_n v 6)), (0, .ref b)]) (st' := [.int 6]) rfl ?_
  refine mi_blk okX1_gathered 1 (pc' := 7) (lv' := [(3, .int 6), (1, .long (ga_n v 6)), (0, .ref b)]) (st' := [.int 9, .int 6]) rfl ?_
  refine mi_ic_ge okX1_gathered rfl rfl (fun c_7 => absurd c_7 (by decide)) (fun c_7 => ?_)
  refine mi_blk okX1_gathered 3 (pc' := 13) (lv' := [(3, .int 6), (1, .long (ga_n v 6)), (0, .ref b)]) (st' := [.int 6, .ref b, .long (ga_n v 6)]) rfl ?_
  refine mi_callS okX1_gathered (mc := 0) (ms := 0) (mc' := 0) (ms' := 0) (As := [.int 6]) (st := [.ref b, .long (ga_n v 6)]) rfl cs_RX1_31 rfl (by decide) (Nat.le_of_ble_eq_true rfl) c_placeOf (fun r h1 q => ?_)
  obtain ⟨rfl, e9⟩ := q; have e9 := e9.symm; subst e9
  change mi_W pP X kX1_gathered 1 0 0 16 [(3, .int 6), (1, .long (ga_n v 6)), (0, .ref b)] [.int (bl_pl 6), .ref b, .long (ga_n v 6)] h _
  refine mi_callV okX1_gathered (mc := 0) (ms := 0) (mc' := 0) (ms' := 0) (b := b) (As := [.int (bl_pl 6)]) (st := [.long (ga_n v 6)]) rfl cv_RX1_38 rfl (by decide) hE hb hc rfl (Nat.le_of_ble_eq_true rfl) (c_valueAt (h := h) hE hb hc) (fun r h1 q => ?_)
  obtain ⟨rfl, e9⟩ := q; have e9 := e9.symm; subst e9
  change mi_W pP X kX1_gathered 1 0 0 19 [(3, .int 6), (1, .long (ga_n v 6)), (0, .ref b)] [.int (bl_at v (bl_pl 6)), .long (ga_n v 6)] h _
  refine mi_blk okX1_gathered 9 (pc' := 4) (lv' := [(3, .int 7), (1, .long ((ga_n v 6) ||| (mi_lshl ((bl_at v (bl_pl 6)).toInt64) 24))), (0, .ref b)]) (st' := []) rfl ?_
  change mi_W pP X kX1_gathered 1 0 0 4 [(3, .int 7), (1, .long (ga_n v 7)), (0, .ref b)] [] h _
  refine mi_blk okX1_gathered 1 (pc' := 5) (lv' := [(3, .int 7), (1, .long (ga_n v 7)), (0, .ref b)]) (st' := [.int 7]) rfl ?_
  refine mi_blk okX1_gathered 1 (pc' := 7) (lv' := [(3, .int 7), (1, .long (ga_n v 7)), (0, .ref b)]) (st' := [.int 9, .int 7]) rfl ?_
  refine mi_ic_ge okX1_gathered rfl rfl (fun c_7 => absurd c_7 (by decide)) (fun c_7 => ?_)
  refine mi_blk okX1_gathered 3 (pc' := 13) (lv' := [(3, .int 7), (1, .long (ga_n v 7)), (0, .ref b)]) (st' := [.int 7, .ref b, .long (ga_n v 7)]) rfl ?_
  refine mi_callS okX1_gathered (mc := 0) (ms := 0) (mc' := 0) (ms' := 0) (As := [.int 7]) (st := [.ref b, .long (ga_n v 7)]) rfl cs_RX1_31 rfl (by decide) (Nat.le_of_ble_eq_true rfl) c_placeOf (fun r h1 q => ?_)
  obtain ⟨rfl, e9⟩ := q; have e9 := e9.symm; subst e9
  change mi_W pP X kX1_gathered 1 0 0 16 [(3, .int 7), (1, .long (ga_n v 7)), (0, .ref b)] [.int (bl_pl 7), .ref b, .long (ga_n v 7)] h _
  refine mi_callV okX1_gathered (mc := 0) (ms := 0) (mc' := 0) (ms' := 0) (b := b) (As := [.int (bl_pl 7)]) (st := [.long (ga_n v 7)]) rfl cv_RX1_38 rfl (by decide) hE hb hc rfl (Nat.le_of_ble_eq_true rfl) (c_valueAt (h := h) hE hb hc) (fun r h1 q => ?_)
  obtain ⟨rfl, e9⟩ := q; have e9 := e9.symm; subst e9
  change mi_W pP X kX1_gathered 1 0 0 19 [(3, .int 7), (1, .long (ga_n v 7)), (0, .ref b)] [.int (bl_at v (bl_pl 7)), .long (ga_n v 7)] h _
  refine mi_blk okX1_gathered 9 (pc' := 4) (lv' := [(3, .int 8), (1, .long ((ga_n v 7) ||| (mi_lshl ((bl_at v (bl_pl 7)).toInt64) 28))), (0, .ref b)]) (st' := []) rfl ?_
  change mi_W pP X kX1_gathered 1 0 0 4 [(3, .int 8), (1, .long (ga_n v 8)), (0, .ref b)] [] h _
  refine mi_blk okX1_gathered 1 (pc' := 5) (lv' := [(3, .int 8), (1, .long (ga_n v 8)), (0, .ref b)]) (st' := [.int 8]) rfl ?_
  refine mi_blk okX1_gathered 1 (pc' := 7) (lv' := [(3, .int 8), (1, .long (ga_n v 8)), (0, .ref b)]) (st' := [.int 9, .int 8]) rfl ?_
  refine mi_ic_ge okX1_gathered rfl rfl (fun c_7 => absurd c_7 (by decide)) (fun c_7 => ?_)
  refine mi_blk okX1_gathered 3 (pc' := 13) (lv' := [(3, .int 8), (1, .long (ga_n v 8)), (0, .ref b)]) (st' := [.int 8, .ref b, .long (ga_n v 8)]) rfl ?_
  refine mi_callS okX1_gathered (mc := 0) (ms := 0) (mc' := 0) (ms' := 0) (As := [.int 8]) (st := [.ref b, .long (ga_n v 8)]) rfl cs_RX1_31 rfl (by decide) (Nat.le_of_ble_eq_true rfl) c_placeOf (fun r h1 q => ?_)
  obtain ⟨rfl, e9⟩ := q; have e9 := e9.symm; subst e9
  change mi_W pP X kX1_gathered 1 0 0 16 [(3, .int 8), (1, .long (ga_n v 8)), (0, .ref b)] [.int (bl_pl 8), .ref b, .long (ga_n v 8)] h _
  refine mi_callV okX1_gathered (mc := 0) (ms := 0) (mc' := 0) (ms' := 0) (b := b) (As := [.int (bl_pl 8)]) (st := [.long (ga_n v 8)]) rfl cv_RX1_38 rfl (by decide) hE hb hc rfl (Nat.le_of_ble_eq_true rfl) (c_valueAt (h := h) hE hb hc) (fun r h1 q => ?_)
  obtain ⟨rfl, e9⟩ := q; have e9 := e9.symm; subst e9
  change mi_W pP X kX1_gathered 1 0 0 19 [(3, .int 8), (1, .long (ga_n v 8)), (0, .ref b)] [.int (bl_at v (bl_pl 8)), .long (ga_n v 8)] h _
  refine mi_blk okX1_gathered 9 (pc' := 4) (lv' := [(3, .int 9), (1, .long ((ga_n v 8) ||| (mi_lshl ((bl_at v (bl_pl 8)).toInt64) 32))), (0, .ref b)]) (st' := []) rfl ?_
  change mi_W pP X kX1_gathered 1 0 0 4 [(3, .int 9), (1, .long (ga_n v 9)), (0, .ref b)] [] h _
  refine mi_blk okX1_gathered 1 (pc' := 5) (lv' := [(3, .int 9), (1, .long (ga_n v 9)), (0, .ref b)]) (st' := [.int 9]) rfl ?_
  refine mi_blk okX1_gathered 1 (pc' := 7) (lv' := [(3, .int 9), (1, .long (ga_n v 9)), (0, .ref b)]) (st' := [.int 9, .int 9]) rfl ?_
  refine mi_ic_ge okX1_gathered rfl rfl (fun c_7 => ?_) (fun c_7 => absurd (by decide) c_7)
  refine mi_blk okX1_gathered 1 (pc' := 33) (lv' := [(3, .int 9), (1, .long (ga_n v 9)), (0, .ref b)]) (st' := [.long (ga_n v 9)]) rfl ?_
  exact mi_ret_l okX1_gathered rfl rfl ⟨rfl, rfl⟩
def bl_M (j : Nat) : Int32 := [15, 240, 3840, 61440, 4369, 8738, 17476, 34952].getD j 0
def mi_X1 (X : mi_X) : Prop := (X 1).1 = 8 ∧ ∀ j, j < 8 → (X 1).2 j = bl_M j
def bl_ln (s : Int64 × Int32 × Int32) (j : Nat) : Int64 × Int32 × Int32 := if ib_bc (s.2.1 &&& bl_M j) = 1 then (bl_put s.1 (bl_tz (s.2.1 &&& bl_M j)) (bl_par s.1 (nI j)), s.2.1 &&& ((s.2.1 &&& bl_M j) ^^^ -1), 1) else s
/-- the first n lines of a round -/
def bl_rd (v : Int64) (e : Int32) : Nat → Int64 × Int32 × Int32
  | 0 => (v, e, 0)
  | n + 1 => bl_ln (bl_rd v e n) n
def bl_fs : Nat → Int64 → Int32 → Int32 → Int64 × Int32
  | 0, v, e, _ => (v, e)
  | n + 1, v, e, c => if c = 0 then (v, e) else bl_fs n (bl_rd v e 8).1 (bl_rd v e 8).2.1 (bl_rd v e 8).2.2
def bl_fill (v : Int64) (e : Int32) : Int64 × Int32 := bl_fs 17 v e (if e = 0 then 0 else 1)
theorem vp_in_lt {n N : Nat} (h : n < N) (hN : N < 2147483648) : vp_in (nI n) N := nI_in h hN
set_option maxHeartbeats 4000000 in
set_option maxRecDepth 100000 in
theorem l_line {X : mi_X} (hX : mi_X1 X) {h : mi_H} {b : Nat} {v : Int64} {e : Int32} {q : Nat} (hE : 6 ≤ b) (hb : b < h.1) {Q : Option Value → mi_H → Prop} (kk : mi_W pP X kX1_fillErased 2 0 0 29 [(3, .int (nI 8)), (1, .int (bl_rd v e 8).2.2), (2, .int (nI q)), (0, .ref b)] [] (mi_set h b (bl_c ((bl_rd v e 8).1) ((bl_rd v e 8).2.1))) Q) : ∀ (n j : Nat), j + n = 8 → mi_W pP X kX1_fillErased 2 0 0 29 [(3, .int (nI j)), (1, .int ((bl_rd v e j).2.2)), (2, .int (nI q)), (0, .ref b)] [] (mi_set h b (bl_c ((bl_rd v e j).1) ((bl_rd v e j).2.1))) Q := by
  intro n
  induction n with
  | zero =>
    intro j hj
    obtain rfl : j = 8 := by omega
    exact kk
  | succ n ih =>
    intro j hj
    refine mi_blk okX1_fillErased 2 (pc' := 32) (lv' := [(3, .int (nI j)), (1, .int ((bl_rd v e j).2.2)), (2, .int (nI q)), (0, .ref b)]) (st' := [.int 8, .int (nI j)]) rfl ?_
    refine mi_ic_ge okX1_fillErased rfl rfl (fun c_32 => absurd c_32 (nI_ge (a := j) (b := 8) (by omega) (by decide))) (fun c_32 => ?_)
    refine mi_blk okX1_fillErased 1 (pc' := 36) (lv' := [(3, .int (nI j)), (1, .int ((bl_rd v e j).2.2)), (2, .int (nI q)), (0, .ref b)]) (st' := [.ref b]) rfl ?_
    refine mi_getf okX1_fillErased rfl fg_RX1_15 hE hb mi_set_self (v := .int ((bl_rd v e j).2.1)) rfl ?_
    refine mi_gets okX1_fillErased (a := 1) rfl (List.mem_of_getElem? (i := 0) rfl) sl_RX1_47 ?_
    refine mi_blk okX1_fillErased 1 (pc' := 43) (lv' := [(3, .int (nI j)), (1, .int ((bl_rd v e j).2.2)), (2, .int (nI q)), (0, .ref b)]) (st' := [.int (nI j), .ref 1, .int ((bl_rd v e j).2.1)]) rfl ?_
    refine mi_xld okX1_fillErased (a := 1) (i := (nI j)) rfl (by decide) (by rw [hX.1]; exact vp_in_lt (by omega) (by decide)) ?_
    rw [show (X 1).2 (nI j).toNatClampNeg = bl_M j by rw [nI_clamp (by omega)]; exact hX.2 j (by omega)]
    refine mi_blk okX1_fillErased 3 (pc' := 49) (lv' := [(4, .int (((bl_rd v e j).2.1) &&& (bl_M j))), (3, .int (nI j)), (1, .int ((bl_rd v e j).2.2)), (2, .int (nI q)), (0, .ref b)]) (st' := [.int (((bl_rd v e j).2.1) &&& (bl_M j))]) rfl ?_
    refine mi_callS okX1_fillErased (mc := 0) (ms := 0) (mc' := 0) (ms' := 0) (As := [.int (((bl_rd v e j).2.1) &&& (bl_M j))]) (st := []) rfl cs_RX1_51 rfl (by decide) (Nat.le_of_ble_eq_true rfl) c_bitCount (fun r h1 q => ?_)
    obtain ⟨rfl, e9⟩ := q; have e9 := e9.symm; subst e9
    change mi_W pP X kX1_fillErased 2 0 0 52 [(4, .int (((bl_rd v e j).2.1) &&& (bl_M j))), (3, .int (nI j)), (1, .int ((bl_rd v e j).2.2)), (2, .int (nI q)), (0, .ref b)] [.int (ib_bc (((bl_rd v e j).2.1) &&& (bl_M j)))] (mi_set h b (bl_c ((bl_rd v e j).1) ((bl_rd v e j).2.1))) _
    refine mi_blk okX1_fillErased 1 (pc' := 53) (lv' := [(4, .int (((bl_rd v e j).2.1) &&& (bl_M j))), (3, .int (nI j)), (1, .int ((bl_rd v e j).2.2)), (2, .int (nI q)), (0, .ref b)]) (st' := [.int 1, .int (ib_bc (((bl_rd v e j).2.1) &&& (bl_M j)))]) rfl ?_
    refine mi_ic_ne okX1_fillErased rfl rfl (fun c_53 => ?_) (fun c_53 => ?_)
    · refine mi_blk okX1_fillErased 2 (pc' := 29) (lv' := [(3, .int ((nI j) + 1)), (4, .int (((bl_rd v e j).2.1) &&& (bl_M j))), (1, .int ((bl_rd v e j).2.2)), (2, .int (nI q)), (0, .ref b)]) (st' := []) rfl ?_
      rw [← nI_succ]
      have e1 : bl_rd v e (j + 1) = bl_rd v e j := by rw [show bl_rd v e (j + 1) = bl_ln (bl_rd v e j) j from rfl, bl_ln, if_neg c_53]
      have w := ih (j + 1) (by omega)
      rw [e1] at w
      exact w.locs (by simp)
    · refine mi_blk okX1_fillErased 2 (pc' := 59) (lv' := [(4, .int (((bl_rd v e j).2.1) &&& (bl_M j))), (3, .int (nI j)), (1, .int ((bl_rd v e j).2.2)), (2, .int (nI q)), (0, .ref b)]) (st' := [.int (((bl_rd v e j).2.1) &&& (bl_M j)), .ref b]) rfl ?_
      refine mi_callS okX1_fillErased (mc := 0) (ms := 0) (mc' := 0) (ms' := 0) (As := [.int (((bl_rd v e j).2.1) &&& (bl_M j))]) (st := [.ref b]) rfl cs_RX1_56 rfl (by decide) (Nat.le_of_ble_eq_true rfl) c_ntz (fun r h1 q => ?_)
      obtain ⟨rfl, e9⟩ := q; have e9 := e9.symm; subst e9
      change mi_W pP X kX1_fillErased 2 0 0 62 [(4, .int (((bl_rd v e j).2.1) &&& (bl_M j))), (3, .int (nI j)), (1, .int ((bl_rd v e j).2.2)), (2, .int (nI q)), (0, .ref b)] [.int (bl_tz (((bl_rd v e j).2.1) &&& (bl_M j))), .ref b] (mi_set h b (bl_c ((bl_rd v e j).1) ((bl_rd v e j).2.1))) _
      refine mi_blk okX1_fillErased 2 (pc' := 64) (lv' := [(4, .int (((bl_rd v e j).2.1) &&& (bl_M j))), (3, .int (nI j)), (1, .int ((bl_rd v e j).2.2)), (2, .int (nI q)), (0, .ref b)]) (st' := [.int (nI j), .ref b, .int (bl_tz (((bl_rd v e j).2.1) &&& (bl_M j))), .ref b]) rfl ?_
      refine mi_callV okX1_fillErased (mc := 0) (ms := 0) (mc' := 0) (ms' := 0) (b := b) (As := [.int (nI j)]) (st := [.int (bl_tz (((bl_rd v e j).2.1) &&& (bl_M j))), .ref b]) rfl cv_RX1_35 rfl (by decide) hE hb mi_set_self rfl (Nat.le_of_ble_eq_true rfl) (c_parityOf (h := mi_set h b (bl_c ((bl_rd v e j).1) ((bl_rd v e j).2.1))) hE hb mi_set_self) (fun r h1 q => ?_)
      obtain ⟨rfl, e9⟩ := q; have e9 := e9.symm; subst e9
      change mi_W pP X kX1_fillErased 2 0 0 67 [(4, .int (((bl_rd v e j).2.1) &&& (bl_M j))), (3, .int (nI j)), (1, .int ((bl_rd v e j).2.2)), (2, .int (nI q)), (0, .ref b)] [.int (bl_par ((bl_rd v e j).1) (nI j)), .int (bl_tz (((bl_rd v e j).2.1) &&& (bl_M j))), .ref b] (mi_set h b (bl_c ((bl_rd v e j).1) ((bl_rd v e j).2.1))) _
      refine mi_callV okX1_fillErased (mc := 0) (ms := 0) (mc' := 0) (ms' := 0) (b := b) (As := [.int (bl_tz (((bl_rd v e j).2.1) &&& (bl_M j))), .int (bl_par ((bl_rd v e j).1) (nI j))]) (st := []) rfl cv_RX1_27 rfl (by decide) hE hb mi_set_self rfl (Nat.le_of_ble_eq_true rfl) (c_put (h := mi_set h b (bl_c ((bl_rd v e j).1) ((bl_rd v e j).2.1))) hE hb mi_set_self) (fun r h1 q => ?_)
      obtain ⟨rfl, e9⟩ := q; have e9 := e9.symm; subst e9
      change mi_W pP X kX1_fillErased 2 0 0 70 [(4, .int (((bl_rd v e j).2.1) &&& (bl_M j))), (3, .int (nI j)), (1, .int ((bl_rd v e j).2.2)), (2, .int (nI q)), (0, .ref b)] [] (mi_set (mi_set h b (bl_c ((bl_rd v e j).1) ((bl_rd v e j).2.1))) b (bl_c (bl_put ((bl_rd v e j).1) (bl_tz (((bl_rd v e j).2.1) &&& (bl_M j))) (bl_par ((bl_rd v e j).1) (nI j))) ((bl_rd v e j).2.1))) _
      rw [mi_set_set]
      refine mi_blk okX1_fillErased 2 (pc' := 72) (lv' := [(4, .int (((bl_rd v e j).2.1) &&& (bl_M j))), (3, .int (nI j)), (1, .int ((bl_rd v e j).2.2)), (2, .int (nI q)), (0, .ref b)]) (st' := [.ref b, .ref b]) rfl ?_
      refine mi_getf okX1_fillErased rfl fg_RX1_15 hE hb mi_set_self (v := .int ((bl_rd v e j).2.1)) rfl ?_
      refine mi_blk okX1_fillErased 4 (pc' := 80) (lv' := [(4, .int (((bl_rd v e j).2.1) &&& (bl_M j))), (3, .int (nI j)), (1, .int ((bl_rd v e j).2.2)), (2, .int (nI q)), (0, .ref b)]) (st' := [.int (((bl_rd v e j).2.1) &&& ((((bl_rd v e j).2.1) &&& (bl_M j)) ^^^ (-1))), .ref b]) rfl ?_
      refine mi_putf' okX1_fillErased rfl fd_RX1_15 hE hb mi_set_self (fs' := [.long (bl_put ((bl_rd v e j).1) (bl_tz (((bl_rd v e j).2.1) &&& (bl_M j))) (bl_par ((bl_rd v e j).1) (nI j))), .int (((bl_rd v e j).2.1) &&& ((((bl_rd v e j).2.1) &&& (bl_M j)) ^^^ (-1)))]) rfl (Nat.le_of_ble_eq_true rfl) rfl rfl ?_
      rw [mi_set_set]
      refine mi_blk okX1_fillErased 4 (pc' := 29) (lv' := [(3, .int ((nI j) + 1)), (1, .int 1), (4, .int (((bl_rd v e j).2.1) &&& (bl_M j))), (2, .int (nI q)), (0, .ref b)]) (st' := []) rfl ?_
      rw [← nI_succ]
      have e1 : bl_rd v e (j + 1) = (bl_put (bl_rd v e j).1 (bl_tz ((bl_rd v e j).2.1 &&& bl_M j)) (bl_par (bl_rd v e j).1 (nI j)), (bl_rd v e j).2.1 &&& (((bl_rd v e j).2.1 &&& bl_M j) ^^^ -1), 1) := by rw [show bl_rd v e (j + 1) = bl_ln (bl_rd v e j) j from rfl, bl_ln, if_pos c_53]
      have w := ih (j + 1) (by omega)
      rw [e1] at w
      exact w.locs (by simp)
set_option maxHeartbeats 4000000 in
set_option maxRecDepth 100000 in
theorem l_round {X : mi_X} (hX : mi_X1 X) {h : mi_H} {b : Nat} (hE : 6 ≤ b) (hb : b < h.1) {Q : Option Value → mi_H → Prop} {w : Int64 × Int32} (hQw : Q none (mi_set h b (bl_c w.1 w.2))) : ∀ (n q : Nat) (v : Int64) (e c : Int32), q + n = 17 → (bl_fs n v e c = w) → mi_W pP X kX1_fillErased 2 0 0 15 [(2, .int (nI q)), (1, .int c), (0, .ref b)] [] (mi_set h b (bl_c v e)) Q := by
  intro n
  induction n with
  | zero =>
    intro q v e c hq hw
    obtain rfl : q = 17 := by omega
    have hQ : (v, e) = w → Q none (mi_set h b (bl_c v e)) := fun z => by rw [← z] at hQw; exact hQw
    replace hQ : True = True → Q none (mi_set h b (bl_c v e)) := fun _ => hQ hw
    refine mi_blk okX1_fillErased 1 (pc' := 16) (lv' := [(2, .int (nI 17)), (1, .int c), (0, .ref b)]) (st' := [.int c]) rfl ?_
    refine mi_if_eq okX1_fillErased rfl rfl (fun c_16 => ?_) (fun c_16 => ?_)
    · exact mi_ret_v okX1_fillErased rfl rfl (hQ rfl)
    · refine mi_blk okX1_fillErased 2 (pc' := 22) (lv' := [(2, .int (nI 17)), (1, .int c), (0, .ref b)]) (st' := [.int 16, .int (nI 17)]) rfl ?_
      refine mi_ic_gt okX1_fillErased rfl rfl (fun c_22 => ?_) (fun c_22 => absurd (by decide) c_22)
      exact mi_ret_v okX1_fillErased rfl rfl (hQ rfl)
  | succ n ih =>
    intro q v e c hq hw
    have hQ : bl_fs (n + 1) v e c = (v, e) → Q none (mi_set h b (bl_c v e)) := fun z => by rw [← hw, z] at hQw; exact hQw
    refine mi_blk okX1_fillErased 1 (pc' := 16) (lv' := [(2, .int (nI q)), (1, .int c), (0, .ref b)]) (st' := [.int c]) rfl ?_
    refine mi_if_eq okX1_fillErased rfl rfl (fun c_16 => ?_) (fun c_16 => ?_)
    · exact mi_ret_v okX1_fillErased rfl rfl (hQ (by rw [bl_fs, if_pos c_16]))
    · refine mi_blk okX1_fillErased 2 (pc' := 22) (lv' := [(2, .int (nI q)), (1, .int c), (0, .ref b)]) (st' := [.int 16, .int (nI q)]) rfl ?_
      refine mi_ic_gt okX1_fillErased rfl rfl (fun c_22 => absurd c_22 (fun z => absurd z (by rw [← Int32.not_le, Decidable.not_not]; exact nI_le (a := q) (b := 16) (by omega) (by decide)))) (fun c_22 => ?_)
      refine mi_blk okX1_fillErased 4 (pc' := 29) (lv' := [(3, .int 0), (1, .int 0), (2, .int (nI q)), (0, .ref b)]) (st' := []) rfl ?_
      refine l_line hX (v := v) (e := e) (q := q) hE hb ?_ 8 0 rfl
      refine mi_blk okX1_fillErased 2 (pc' := 32) (lv' := [(3, .int (nI 8)), (1, .int ((bl_rd v e 8).2.2)), (2, .int (nI q)), (0, .ref b)]) (st' := [.int 8, .int (nI 8)]) rfl ?_
      refine mi_ic_ge okX1_fillErased rfl rfl (fun c_32 => ?_) (fun c_32 => absurd (by decide) c_32)
      refine mi_blk okX1_fillErased 2 (pc' := 15) (lv' := [(2, .int ((nI q) + 1)), (3, .int (nI 8)), (1, .int ((bl_rd v e 8).2.2)), (0, .ref b)]) (st' := []) rfl ?_
      rw [← nI_succ]
      exact (ih (q + 1) (bl_rd v e 8).1 (bl_rd v e 8).2.1 (bl_rd v e 8).2.2 (by omega) (by rw [← hw, bl_fs, if_neg c_16])).locs (by simp)
theorem mi_W.heap0 {P : mi_P} {X : mi_X} {k d mc ms pc : Nat} {lv : mi_L} {st : List Value} {h : mi_H} {a : Nat} {c : mi_C} {Q : Option Value → mi_H → Prop} (w : mi_W P X k d mc ms pc lv st (mi_set h a c) Q) (hc : h.2 a = c) : mi_W P X k d mc ms pc lv st h Q := by
  rw [mi_set_same hc] at w
  exact w
set_option maxHeartbeats 4000000 in
set_option maxRecDepth 100000 in
theorem c_fillErased {X : mi_X} (hX : mi_X1 X) {h : mi_H} {b : Nat} {v : Int64} {e : Int32} (hE : 6 ≤ b) (hb : b < h.1) (hc : h.2 b = bl_c v e) : mi_S pP X kX1_fillErased 2 [.ref b] h 0 0 (fun r h1 => r = none ∧ h1 = mi_set h b (bl_c (bl_fill v e).1 (bl_fill v e).2)) := by
  refine enX1_fillErased (Nat.le_of_ble_eq_true rfl) ?_
  refine mi_blk okX1_fillErased 1 (pc' := 1) (lv' := [(0, .ref b)]) (st' := [.ref b]) rfl ?_
  refine mi_getf okX1_fillErased rfl fg_RX1_15 hE hb hc (v := .int e) rfl ?_
  refine mi_if_eq okX1_fillErased rfl rfl (fun c_4 => ?_) (fun c_4 => ?_)
  · refine mi_blk okX1_fillErased 4 (pc' := 15) (lv' := [(2, .int 0), (1, .int 0), (0, .ref b)]) (st' := []) rfl ?_
    exact (l_round hX (h := h) hE hb (w := bl_fill v e) ⟨rfl, rfl⟩ 17 0 v e 0 rfl (by rw [bl_fill, if_pos c_4])).heap0 hc
  · refine mi_blk okX1_fillErased 5 (pc' := 15) (lv' := [(2, .int 0), (1, .int 1), (0, .ref b)]) (st' := []) rfl ?_
    exact (l_round hX (h := h) hE hb (w := bl_fill v e) ⟨rfl, rfl⟩ 17 0 v e 1 rfl (by rw [bl_fill, if_neg c_4])).heap0 hc
def bl_m2 (v : Int64) : Int64 := if bl_ods v [0, 1, 2, 3] (-1) = -1 then v else if bl_ods v [4, 5, 6, 7] (-1) = -1 then v else
  bl_put v (4 * bl_ods v [0, 1, 2, 3] (-1) + bl_ods v [4, 5, 6, 7] (-1) - 4) (bl_at v (4 * bl_ods v [0, 1, 2, 3] (-1) + bl_ods v [4, 5, 6, 7] (-1) - 4) ^^^ bl_par v (bl_ods v [0, 1, 2, 3] (-1)))
def bl_mend (v : Int64) (e : Int32) : Int64 × Int32 := if (bl_fill v e).2 = 0 then (bl_m2 (bl_fill v e).1, (bl_fill v e).2) else bl_fill v e
set_option maxHeartbeats 4000000 in
set_option maxRecDepth 100000 in
theorem c_mend {X : mi_X} (hX : mi_X1 X) {h : mi_H} {b : Nat} {v : Int64} {e : Int32} (hE : 6 ≤ b) (hb : b < h.1) (hc : h.2 b = bl_c v e) : mi_S pP X kX1_mend 3 [.ref b] h 0 0 (fun r h1 => r = none ∧ h1 = mi_set h b (bl_c (bl_mend v e).1 (bl_mend v e).2)) := by
  refine enX1_mend (Nat.le_of_ble_eq_true rfl) ?_
  refine mi_blk okX1_mend 1 (pc' := 1) (lv' := [(0, .ref b)]) (st' := [.ref b]) rfl ?_
  refine mi_callV okX1_mend (mc := 0) (ms := 0) (mc' := 0) (ms' := 0) (b := b) (As := []) (st := []) rfl cv_RX1_41 rfl (by decide) hE hb hc rfl (Nat.le_of_ble_eq_true rfl) (c_fillErased hX hE hb hc) (fun r h1 q => ?_)
  obtain ⟨rfl, e9⟩ := q; have e9 := e9.symm; subst e9
  change mi_W pP X kX1_mend 3 0 0 4 [(0, .ref b)] [] (mi_set h b (bl_c ((bl_fill v e).1) ((bl_fill v e).2))) _
  refine mi_blk okX1_mend 1 (pc' := 5) (lv' := [(0, .ref b)]) (st' := [.ref b]) rfl ?_
  refine mi_getf okX1_mend rfl fg_RX1_15 hE hb mi_set_self (v := .int ((bl_fill v e).2)) rfl ?_
  refine mi_if_eq okX1_mend rfl rfl (fun c_8 => ?_) (fun c_8 => ?_)
  · refine mi_blk okX1_mend 2 (pc' := 14) (lv' := [(0, .ref b)]) (st' := [.int 0, .ref b]) rfl ?_
    refine mi_callV okX1_mend (mc := 0) (ms := 0) (mc' := 0) (ms' := 0) (b := b) (As := [.int 0]) (st := []) rfl cv_RX1_44 rfl (by decide) hE hb mi_set_self rfl (Nat.le_of_ble_eq_true rfl) (c_onlyOddOf_0 (h := mi_set h b (bl_c ((bl_fill v e).1) ((bl_fill v e).2))) hE hb mi_set_self) (fun r h1 q => ?_)
    obtain ⟨rfl, e9⟩ := q; have e9 := e9.symm; subst e9
    change mi_W pP X kX1_mend 3 0 0 17 [(0, .ref b)] [.int (bl_ods (bl_fill v e).1 [0, 1, 2, 3] (-1))] (mi_set h b (bl_c ((bl_fill v e).1) ((bl_fill v e).2))) _
    refine mi_blk okX1_mend 3 (pc' := 20) (lv' := [(1, .int (bl_ods (bl_fill v e).1 [0, 1, 2, 3] (-1))), (0, .ref b)]) (st' := [.int 4, .ref b]) rfl ?_
    refine mi_callV okX1_mend (mc := 0) (ms := 0) (mc' := 0) (ms' := 0) (b := b) (As := [.int 4]) (st := []) rfl cv_RX1_44 rfl (by decide) hE hb mi_set_self rfl (Nat.le_of_ble_eq_true rfl) (c_onlyOddOf_4 (h := mi_set h b (bl_c ((bl_fill v e).1) ((bl_fill v e).2))) hE hb mi_set_self) (fun r h1 q => ?_)
    obtain ⟨rfl, e9⟩ := q; have e9 := e9.symm; subst e9
    change mi_W pP X kX1_mend 3 0 0 23 [(1, .int (bl_ods (bl_fill v e).1 [0, 1, 2, 3] (-1))), (0, .ref b)] [.int (bl_ods (bl_fill v e).1 [4, 5, 6, 7] (-1))] (mi_set h b (bl_c ((bl_fill v e).1) ((bl_fill v e).2))) _
    refine mi_blk okX1_mend 3 (pc' := 26) (lv' := [(2, .int (bl_ods (bl_fill v e).1 [4, 5, 6, 7] (-1))), (1, .int (bl_ods (bl_fill v e).1 [0, 1, 2, 3] (-1))), (0, .ref b)]) (st' := [.int (-1), .int (bl_ods (bl_fill v e).1 [0, 1, 2, 3] (-1))]) rfl ?_
    refine mi_ic_eq okX1_mend rfl rfl (fun c_26 => ?_) (fun c_26 => ?_)
    · exact mi_ret_v okX1_mend rfl rfl ⟨rfl, by rw [bl_mend, if_pos c_8, bl_m2, if_pos c_26]⟩
    · refine mi_blk okX1_mend 2 (pc' := 31) (lv' := [(2, .int (bl_ods (bl_fill v e).1 [4, 5, 6, 7] (-1))), (1, .int (bl_ods (bl_fill v e).1 [0, 1, 2, 3] (-1))), (0, .ref b)]) (st' := [.int (-1), .int (bl_ods (bl_fill v e).1 [4, 5, 6, 7] (-1))]) rfl ?_
      refine mi_ic_eq okX1_mend rfl rfl (fun c_31 => ?_) (fun c_31 => ?_)
      · exact mi_ret_v okX1_mend rfl rfl ⟨rfl, by rw [bl_mend, if_pos c_8, bl_m2, if_neg c_26, if_pos c_31]⟩
      · refine mi_blk okX1_mend 12 (pc' := 46) (lv' := [(3, .int (((4 * (bl_ods (bl_fill v e).1 [0, 1, 2, 3] (-1))) + (bl_ods (bl_fill v e).1 [4, 5, 6, 7] (-1))) - 4)), (2, .int (bl_ods (bl_fill v e).1 [4, 5, 6, 7] (-1))), (1, .int (bl_ods (bl_fill v e).1 [0, 1, 2, 3] (-1))), (0, .ref b)]) (st' := [.int (((4 * (bl_ods (bl_fill v e).1 [0, 1, 2, 3] (-1))) + (bl_ods (bl_fill v e).1 [4, 5, 6, 7] (-1))) - 4), .ref b, .int (((4 * (bl_ods (bl_fill v e).1 [0, 1, 2, 3] (-1))) + (bl_ods (bl_fill v e).1 [4, 5, 6, 7] (-1))) - 4), .ref b]) rfl ?_
        refine mi_callV okX1_mend (mc := 0) (ms := 0) (mc' := 0) (ms' := 0) (b := b) (As := [.int (((4 * (bl_ods (bl_fill v e).1 [0, 1, 2, 3] (-1))) + (bl_ods (bl_fill v e).1 [4, 5, 6, 7] (-1))) - 4)]) (st := [.int (((4 * (bl_ods (bl_fill v e).1 [0, 1, 2, 3] (-1))) + (bl_ods (bl_fill v e).1 [4, 5, 6, 7] (-1))) - 4), .ref b]) rfl cv_RX1_38 rfl (by decide) hE hb mi_set_self rfl (Nat.le_of_ble_eq_true rfl) (c_valueAt (h := mi_set h b (bl_c ((bl_fill v e).1) ((bl_fill v e).2))) hE hb mi_set_self) (fun r h1 q => ?_)
        obtain ⟨rfl, e9⟩ := q; have e9 := e9.symm; subst e9
        change mi_W pP X kX1_mend 3 0 0 49 [(3, .int (((4 * (bl_ods (bl_fill v e).1 [0, 1, 2, 3] (-1))) + (bl_ods (bl_fill v e).1 [4, 5, 6, 7] (-1))) - 4)), (2, .int (bl_ods (bl_fill v e).1 [4, 5, 6, 7] (-1))), (1, .int (bl_ods (bl_fill v e).1 [0, 1, 2, 3] (-1))), (0, .ref b)] [.int (bl_at ((bl_fill v e).1) (((4 * (bl_ods (bl_fill v e).1 [0, 1, 2, 3] (-1))) + (bl_ods (bl_fill v e).1 [4, 5, 6, 7] (-1))) - 4)), .int (((4 * (bl_ods (bl_fill v e).1 [0, 1, 2, 3] (-1))) + (bl_ods (bl_fill v e).1 [4, 5, 6, 7] (-1))) - 4), .ref b] (mi_set h b (bl_c ((bl_fill v e).1) ((bl_fill v e).2))) _
        refine mi_blk okX1_mend 2 (pc' := 51) (lv' := [(3, .int (((4 * (bl_ods (bl_fill v e).1 [0, 1, 2, 3] (-1))) + (bl_ods (bl_fill v e).1 [4, 5, 6, 7] (-1))) - 4)), (2, .int (bl_ods (bl_fill v e).1 [4, 5, 6, 7] (-1))), (1, .int (bl_ods (bl_fill v e).1 [0, 1, 2, 3] (-1))), (0, .ref b)]) (st' := [.int (bl_ods (bl_fill v e).1 [0, 1, 2, 3] (-1)), .ref b, .int (bl_at ((bl_fill v e).1) (((4 * (bl_ods (bl_fill v e).1 [0, 1, 2, 3] (-1))) + (bl_ods (bl_fill v e).1 [4, 5, 6, 7] (-1))) - 4)), .int (((4 * (bl_ods (bl_fill v e).1 [0, 1, 2, 3] (-1))) + (bl_ods (bl_fill v e).1 [4, 5, 6, 7] (-1))) - 4), .ref b]) rfl ?_
        refine mi_callV okX1_mend (mc := 0) (ms := 0) (mc' := 0) (ms' := 0) (b := b) (As := [.int (bl_ods (bl_fill v e).1 [0, 1, 2, 3] (-1))]) (st := [.int (bl_at ((bl_fill v e).1) (((4 * (bl_ods (bl_fill v e).1 [0, 1, 2, 3] (-1))) + (bl_ods (bl_fill v e).1 [4, 5, 6, 7] (-1))) - 4)), .int (((4 * (bl_ods (bl_fill v e).1 [0, 1, 2, 3] (-1))) + (bl_ods (bl_fill v e).1 [4, 5, 6, 7] (-1))) - 4), .ref b]) rfl cv_RX1_35 rfl (by decide) hE hb mi_set_self rfl (Nat.le_of_ble_eq_true rfl) (c_parityOf (h := mi_set h b (bl_c ((bl_fill v e).1) ((bl_fill v e).2))) hE hb mi_set_self) (fun r h1 q => ?_)
        obtain ⟨rfl, e9⟩ := q; have e9 := e9.symm; subst e9
        change mi_W pP X kX1_mend 3 0 0 54 [(3, .int (((4 * (bl_ods (bl_fill v e).1 [0, 1, 2, 3] (-1))) + (bl_ods (bl_fill v e).1 [4, 5, 6, 7] (-1))) - 4)), (2, .int (bl_ods (bl_fill v e).1 [4, 5, 6, 7] (-1))), (1, .int (bl_ods (bl_fill v e).1 [0, 1, 2, 3] (-1))), (0, .ref b)] [.int (bl_par ((bl_fill v e).1) (bl_ods (bl_fill v e).1 [0, 1, 2, 3] (-1))), .int (bl_at ((bl_fill v e).1) (((4 * (bl_ods (bl_fill v e).1 [0, 1, 2, 3] (-1))) + (bl_ods (bl_fill v e).1 [4, 5, 6, 7] (-1))) - 4)), .int (((4 * (bl_ods (bl_fill v e).1 [0, 1, 2, 3] (-1))) + (bl_ods (bl_fill v e).1 [4, 5, 6, 7] (-1))) - 4), .ref b] (mi_set h b (bl_c ((bl_fill v e).1) ((bl_fill v e).2))) _
        refine mi_blk okX1_mend 1 (pc' := 55) (lv' := [(3, .int (((4 * (bl_ods (bl_fill v e).1 [0, 1, 2, 3] (-1))) + (bl_ods (bl_fill v e).1 [4, 5, 6, 7] (-1))) - 4)), (2, .int (bl_ods (bl_fill v e).1 [4, 5, 6, 7] (-1))), (1, .int (bl_ods (bl_fill v e).1 [0, 1, 2, 3] (-1))), (0, .ref b)]) (st' := [.int ((bl_at ((bl_fill v e).1) (((4 * (bl_ods (bl_fill v e).1 [0, 1, 2, 3] (-1))) + (bl_ods (bl_fill v e).1 [4, 5, 6, 7] (-1))) - 4)) ^^^ (bl_par ((bl_fill v e).1) (bl_ods (bl_fill v e).1 [0, 1, 2, 3] (-1)))), .int (((4 * (bl_ods (bl_fill v e).1 [0, 1, 2, 3] (-1))) + (bl_ods (bl_fill v e).1 [4, 5, 6, 7] (-1))) - 4), .ref b]) rfl ?_
        refine mi_callV okX1_mend (mc := 0) (ms := 0) (mc' := 0) (ms' := 0) (b := b) (As := [.int (((4 * (bl_ods (bl_fill v e).1 [0, 1, 2, 3] (-1))) + (bl_ods (bl_fill v e).1 [4, 5, 6, 7] (-1))) - 4), .int ((bl_at ((bl_fill v e).1) (((4 * (bl_ods (bl_fill v e).1 [0, 1, 2, 3] (-1))) + (bl_ods (bl_fill v e).1 [4, 5, 6, 7] (-1))) - 4)) ^^^ (bl_par ((bl_fill v e).1) (bl_ods (bl_fill v e).1 [0, 1, 2, 3] (-1))))]) (st := []) rfl cv_RX1_27 rfl (by decide) hE hb mi_set_self rfl (Nat.le_of_ble_eq_true rfl) (c_put (h := mi_set h b (bl_c ((bl_fill v e).1) ((bl_fill v e).2))) hE hb mi_set_self) (fun r h1 q => ?_)
        obtain ⟨rfl, e9⟩ := q; have e9 := e9.symm; subst e9
        change mi_W pP X kX1_mend 3 0 0 58 [(3, .int (((4 * (bl_ods (bl_fill v e).1 [0, 1, 2, 3] (-1))) + (bl_ods (bl_fill v e).1 [4, 5, 6, 7] (-1))) - 4)), (2, .int (bl_ods (bl_fill v e).1 [4, 5, 6, 7] (-1))), (1, .int (bl_ods (bl_fill v e).1 [0, 1, 2, 3] (-1))), (0, .ref b)] [] (mi_set (mi_set h b (bl_c ((bl_fill v e).1) ((bl_fill v e).2))) b (bl_c (bl_put ((bl_fill v e).1) (((4 * (bl_ods (bl_fill v e).1 [0, 1, 2, 3] (-1))) + (bl_ods (bl_fill v e).1 [4, 5, 6, 7] (-1))) - 4) ((bl_at ((bl_fill v e).1) (((4 * (bl_ods (bl_fill v e).1 [0, 1, 2, 3] (-1))) + (bl_ods (bl_fill v e).1 [4, 5, 6, 7] (-1))) - 4)) ^^^ (bl_par ((bl_fill v e).1) (bl_ods (bl_fill v e).1 [0, 1, 2, 3] (-1))))) ((bl_fill v e).2))) _
        rw [mi_set_set]
        exact mi_ret_v okX1_mend rfl rfl ⟨rfl, by rw [bl_mend, if_pos c_8, bl_m2, if_neg c_26, if_neg c_31]⟩
  · exact mi_ret_v okX1_mend rfl rfl ⟨rfl, by rw [bl_mend, if_neg c_8]⟩
