-- PitHouse$Sector: number, block; isWritten, isData, sum, state, mended, turns, dsv, farthest
abbrev se_S : Type := Int32 × Int32 × Int32 × Int32 × Int64 × Int32 × Int32 × Int32
abbrev se_c (n : Int32) (b : Nat) (q : se_S) : mi_C := .inr (6, [.int n, .ref b, .int q.1, .int q.2.1, .int q.2.2.1, .int q.2.2.2.1, .long q.2.2.2.2.1, .int q.2.2.2.2.2.1, .int q.2.2.2.2.2.2.1, .int q.2.2.2.2.2.2.2])
def sm_n (m : Int64) : Nat → Int32
  | 0 => 0
  | k + 1 => sm_n m k + (nI k + 1) * bl_at m (nI k)
def se_sum (m : Int64) : Int32 := sm_n m 9 - sm_n m 9 / 251 * 251
def mx_n (n : Int32) : Nat → Int32
  | 0 => (7 * n + 3) - (7 * n + 3) / 16 * 16
  | k + 1 => (5 * mx_n n k + 3) - (5 * mx_n n k + 3) / 16 * 16
def ms_n (n : Int32) : Nat → Int64
  | 0 => 0
  | k + 1 => ms_n n k ||| mi_lshl (mx_n n k).toInt64 (4 * nI k)
def se_mix (n : Int32) (m : Int64) : Int64 := m ^^^ ms_n n 9
def se_jd (n wr da su : Int32) (v : Int64) (e : Int32) : Int32 := if wr = 0 then 2 else if e = 0 then (if da = 0 ∨ se_sum (se_mix n (ga_n v 9)) = su then (if bl_even v = 0 then 1 else 0) else 1) else 2
set_option maxHeartbeats 4000000 in
set_option maxRecDepth 100000 in
theorem c_nibbleOf {X : mi_X} {h : mi_H} {m : Int64} {k : Int32} : mi_S pP X kX5_nibbleOf 0 [.long m, .int k] h 0 0 (fun r h1 => r = some (.int (bl_at m k)) ∧ h1 = h) := by
  refine enX5_nibbleOf (Nat.le_of_ble_eq_true rfl) ?_
  refine mi_blk okX5_nibbleOf 8 (pc' := 9) (lv' := [(0, .long m), (2, .int k)]) (st' := [.int (((mi_lushr m (4 * k)).toInt32) &&& 15)]) rfl ?_
  exact mi_ret_i okX5_nibbleOf rfl rfl rfl ⟨rfl, rfl⟩
set_option maxHeartbeats 4000000 in
set_option maxRecDepth 100000 in
theorem c_sumOf {X : mi_X} {h : mi_H} {m : Int64} : mi_S pP X kX5_sumOf 1 [.long m] h 0 0 (fun r h1 => r = some (.int (se_sum m)) ∧ h1 = h) := by
  refine enX5_sumOf (Nat.le_of_ble_eq_true rfl) ?_
  refine mi_blk okX5_sumOf 4 (pc' := 4) (lv' := [(3, .int 0), (2, .int 0), (0, .long m)]) (st' := []) rfl ?_
  change mi_W pP X kX5_sumOf 1 0 0 4 [(3, .int 0), (2, .int (sm_n m 0)), (0, .long m)] [] h _
  refine mi_blk okX5_sumOf 1 (pc' := 5) (lv' := [(3, .int 0), (2, .int (sm_n m 0)), (0, .long m)]) (st' := [.int 0]) rfl ?_
  refine mi_blk okX5_sumOf 1 (pc' := 7) (lv' := [(3, .int 0), (2, .int (sm_n m 0)), (0, .long m)]) (st' := [.int 9, .int 0]) rfl ?_
  refine mi_ic_ge okX5_sumOf rfl rfl (fun c_7 => absurd c_7 (by decide)) (fun c_7 => ?_)
  refine mi_blk okX5_sumOf 6 (pc' := 16) (lv' := [(3, .int 0), (2, .int (sm_n m 0)), (0, .long m)]) (st' := [.int 0, .long m, .int 1, .int (sm_n m 0)]) rfl ?_
  refine mi_callS okX5_sumOf (mc := 0) (ms := 0) (mc' := 0) (ms' := 0) (As := [.long m, .int 0]) (st := [.int 1, .int (sm_n m 0)]) rfl cs_RX5_86 rfl (by decide) (Nat.le_of_ble_eq_true rfl) c_nibbleOf (fun r h1 q => ?_)
  obtain ⟨rfl, e9⟩ := q; have e9 := e9.symm; subst e9
  change mi_W pP X kX5_sumOf 1 0 0 19 [(3, .int 0), (2, .int (sm_n m 0)), (0, .long m)] [.int (bl_at m 0), .int 1, .int (sm_n m 0)] h _
  refine mi_blk okX5_sumOf 5 (pc' := 4) (lv' := [(3, .int 1), (2, .int ((sm_n m 0) + (1 * (bl_at m 0)))), (0, .long m)]) (st' := []) rfl ?_
  change mi_W pP X kX5_sumOf 1 0 0 4 [(3, .int 1), (2, .int (sm_n m 1)), (0, .long m)] [] h _
  refine mi_blk okX5_sumOf 1 (pc' := 5) (lv' := [(3, .int 1), (2, .int (sm_n m 1)), (0, .long m)]) (st' := [.int 1]) rfl ?_
  refine mi_blk okX5_sumOf 1 (pc' := 7) (lv' := [(3, .int 1), (2, .int (sm_n m 1)), (0, .long m)]) (st' := [.int 9, .int 1]) rfl ?_
  refine mi_ic_ge okX5_sumOf rfl rfl (fun c_7 => absurd c_7 (by decide)) (fun c_7 => ?_)
  refine mi_blk okX5_sumOf 6 (pc' := 16) (lv' := [(3, .int 1), (2, .int (sm_n m 1)), (0, .long m)]) (st' := [.int 1, .long m, .int 2, .int (sm_n m 1)]) rfl ?_
  refine mi_callS okX5_sumOf (mc := 0) (ms := 0) (mc' := 0) (ms' := 0) (As := [.long m, .int 1]) (st := [.int 2, .int (sm_n m 1)]) rfl cs_RX5_86 rfl (by decide) (Nat.le_of_ble_eq_true rfl) c_nibbleOf (fun r h1 q => ?_)
  obtain ⟨rfl, e9⟩ := q; have e9 := e9.symm; subst e9
  change mi_W pP X kX5_sumOf 1 0 0 19 [(3, .int 1), (2, .int (sm_n m 1)), (0, .long m)] [.int (bl_at m 1), .int 2, .int (sm_n m 1)] h _
  refine mi_blk okX5_sumOf 5 (pc' := 4) (lv' := [(3, .int 2), (2, .int ((sm_n m 1) + (2 * (bl_at m 1)))), (0, .long m)]) (st' := []) rfl ?_
  change mi_W pP X kX5_sumOf 1 0 0 4 [(3, .int 2), (2, .int (sm_n m 2)), (0, .long m)] [] h _
  refine mi_blk okX5_sumOf 1 (pc' := 5) (lv' := [(3, .int 2), (2, .int (sm_n m 2)), (0, .long m)]) (st' := [.int 2]) rfl ?_
  refine mi_blk okX5_sumOf 1 (pc' := 7) (lv' := [(3, .int 2), (2, .int (sm_n m 2)), (0, .long m)]) (st' := [.int 9, .int 2]) rfl ?_
  refine mi_ic_ge okX5_sumOf rfl rfl (fun c_7 => absurd c_7 (by decide)) (fun c_7 => ?_)
  refine mi_blk okX5_sumOf 6 (pc' := 16) (lv' := [(3, .int 2), (2, .int (sm_n m 2)), (0, .long m)]) (st' := [.int 2, .long m, .int 3, .int (sm_n m 2)]) rfl ?_
  refine mi_callS okX5_sumOf (mc := 0) (ms := 0) (mc' := 0) (ms' := 0) (As := [.long m, .int 2]) (st := [.int 3, .int (sm_n m 2)]) rfl cs_RX5_86 rfl (by decide) (Nat.le_of_ble_eq_true rfl) c_nibbleOf (fun r h1 q => ?_)
  obtain ⟨rfl, e9⟩ := q; have e9 := e9.symm; subst e9
  change mi_W pP X kX5_sumOf 1 0 0 19 [(3, .int 2), (2, .int (sm_n m 2)), (0, .long m)] [.int (bl_at m 2), .int 3, .int (sm_n m 2)] h _
  refine mi_blk okX5_sumOf 5 (pc' := 4) (lv' := [(3, .int 3), (2, .int ((sm_n m 2) + (3 * (bl_at m 2)))), (0, .long m)]) (st' := []) rfl ?_
  change mi_W pP X kX5_sumOf 1 0 0 4 [(3, .int 3), (2, .int (sm_n m 3)), (0, .long m)] [] h _
  refine mi_blk okX5_sumOf 1 (pc' := 5) (lv' := [(3, .int 3), (2, .int (sm_n m 3)), (0, .long m)]) (st' := [.int 3]) rfl ?_
  refine mi_blk okX5_sumOf 1 (pc' := 7) (lv' := [(3, .int 3), (2, .int (sm_n m 3)), (0, .long m)]) (st' := [.int 9, .int 3]) rfl ?_
  refine mi_ic_ge okX5_sumOf rfl rfl (fun c_7 => absurd c_7 (by decide)) (fun c_7 => ?_)
  refine mi_blk okX5_sumOf 6 (pc' := 16) (lv' := [(3, .int 3), (2, .int (sm_n m 3)), (0, .long m)]) (st' := [.int 3, .long m, .int 4, .int (sm_n m 3)]) rfl ?_
  refine mi_callS okX5_sumOf (mc := 0) (ms := 0) (mc' := 0) (ms' := 0) (As := [.long m, .int 3]) (st := [.int 4, .int (sm_n m 3)]) rfl cs_RX5_86 rfl (by decide) (Nat.le_of_ble_eq_true rfl) c_nibbleOf (fun r h1 q => ?_)
  obtain ⟨rfl, e9⟩ := q; have e9 := e9.symm; subst e9
  change mi_W pP X kX5_sumOf 1 0 0 19 [(3, .int 3), (2, .int (sm_n m 3)), (0, .long m)] [.int (bl_at m 3), .int 4, .int (sm_n m 3)] h _
  refine mi_blk okX5_sumOf 5 (pc' := 4) (lv' := [(3, .int 4), (2, .int ((sm_n m 3) + (4 * (bl_at m 3)))), (0, .long m)]) (st' := []) rfl ?_
  change mi_W pP X kX5_sumOf 1 0 0 4 [(3, .int 4), (2, .int (sm_n m 4)), (0, .long m)] [] h _
  refine mi_blk okX5_sumOf 1 (pc' := 5) (lv' := [(3, .int 4), (2, .int (sm_n m 4)), (0, .long m)]) (st' := [.int 4]) rfl ?_
  refine mi_blk okX5_sumOf 1 (pc' := 7) (lv' := [(3, .int 4), (2, .int (sm_n m 4)), (0, .long m)]) (st' := [.int 9, .int 4]) rfl ?_
  refine mi_ic_ge okX5_sumOf rfl rfl (fun c_7 => absurd c_7 (by decide)) (fun c_7 => ?_)
  refine mi_blk okX5_sumOf 6 (pc' := 16) (lv' := [(3, .int 4), (2, .int (sm_n m 4)), (0, .long m)]) (st' := [.int 4, .long m, .int 5, .int (sm_n m 4)]) rfl ?_
  refine mi_callS okX5_sumOf (mc := 0) (ms := 0) (mc' := 0) (ms' := 0) (As := [.long m, .int 4]) (st := [.int 5, .int (sm_n m 4)]) rfl cs_RX5_86 rfl (by decide) (Nat.le_of_ble_eq_true rfl) c_nibbleOf (fun r h1 q => ?_)
  obtain ⟨rfl, e9⟩ := q; have e9 := e9.symm; subst e9
  change mi_W pP X kX5_sumOf 1 0 0 19 [(3, .int 4), (2, .int (sm_n m 4)), (0, .long m)] [.int (bl_at m 4), .int 5, .int (sm_n m 4)] h _
  refine mi_blk okX5_sumOf 5 (pc' := 4) (lv' := [(3, .int 5), (2, .int ((sm_n m 4) + (5 * (bl_at m 4)))), (0, .long m)]) (st' := []) rfl ?_
  change mi_W pP X kX5_sumOf 1 0 0 4 [(3, .int 5), (2, .int (sm_n m 5)), (0, .long m)] [] h _
  refine mi_blk okX5_sumOf 1 (pc' := 5) (lv' := [(3, .int 5), (2, .int (sm_n m 5)), (0, .long m)]) (st' := [.int 5]) rfl ?_
  refine mi_blk okX5_sumOf 1 (pc' := 7) (lv' := [(3, .int 5), (2, .int (sm_n m 5)), (0, .long m)]) (st' := [.int 9, .int 5]) rfl ?_
  refine mi_ic_ge okX5_sumOf rfl rfl (fun c_7 => absurd c_7 (by decide)) (fun c_7 => ?_)
  refine mi_blk okX5_sumOf 6 (pc' := 16) (lv' := [(3, .int 5), (2, .int (sm_n m 5)), (0, .long m)]) (st' := [.int 5, .long m, .int 6, .int (sm_n m 5)]) rfl ?_
  refine mi_callS okX5_sumOf (mc := 0) (ms := 0) (mc' := 0) (ms' := 0) (As := [.long m, .int 5]) (st := [.int 6, .int (sm_n m 5)]) rfl cs_RX5_86 rfl (by decide) (Nat.le_of_ble_eq_true rfl) c_nibbleOf (fun r h1 q => ?_)
  obtain ⟨rfl, e9⟩ := q; have e9 := e9.symm; subst e9
  change mi_W pP X kX5_sumOf 1 0 0 19 [(3, .int 5), (2, .int (sm_n m 5)), (0, .long m)] [.int (bl_at m 5), .int 6, .int (sm_n m 5)] h _
  refine mi_blk okX5_sumOf 5 (pc' := 4) (lv' := [(3, .int 6), (2, .int ((sm_n m 5) + (6 * (bl_at m 5)))), (0, .long m)]) (st' := []) rfl ?_
  change mi_W pP X kX5_sumOf 1 0 0 4 [(3, .int 6), (2, .int (sm_n m 6)), (0, .long m)] [] h _
  refine mi_blk okX5_sumOf 1 (pc' := 5) (lv' := [(3, .int 6), (2, .int (sm_n m 6)), (0, .long m)]) (st' := [.int 6]) rfl ?_
  refine mi_blk okX5_sumOf 1 (pc' := 7) (lv' := [(3, .int 6), (2, .int (sm_n m 6)), (0, .long m)]) (st' := [.int 9, .int 6]) rfl ?_
  refine mi_ic_ge okX5_sumOf rfl rfl (fun c_7 => absurd c_7 (by decide)) (fun c_7 => ?_)
  refine mi_blk okX5_sumOf 6 (pc' := 16) (lv' := [(3, .int 6), (2, .int (sm_n m 6)), (0, .long m)]) (st' := [.int 6, .long m, .int 7, .int (sm_n m 6)]) rfl ?_
  refine mi_callS okX5_sumOf (mc := 0) (ms := 0) (mc' := 0) (ms' := 0) (As := [.long m, .int 6]) (st := [.int 7, .int (sm_n m 6)]) rfl cs_RX5_86 rfl (by decide) (Nat.le_of_ble_eq_true rfl) c_nibbleOf (fun r h1 q => ?_)
  obtain ⟨rfl, e9⟩ := q; have e9 := e9.symm; subst e9
  change mi_W pP X kX5_sumOf 1 0 0 19 [(3, .int 6), (2, .int (sm_n m 6)), (0, .long m)] [.int (bl_at m 6), .int 7, .int (sm_n m 6)] h _
  refine mi_blk okX5_sumOf 5 (pc' := 4) (lv' := [(3, .int 7), (2, .int ((sm_n m 6) + (7 * (bl_at m 6)))), (0, .long m)]) (st' := []) rfl ?_
  change mi_W pP X kX5_sumOf 1 0 0 4 [(3, .int 7), (2, .int (sm_n m 7)), (0, .long m)] [] h _
  refine mi_blk okX5_sumOf 1 (pc' := 5) (lv' := [(3, .int 7), (2, .int (sm_n m 7)), (0, .long m)]) (st' := [.int 7]) rfl ?_
  refine mi_blk okX5_sumOf 1 (pc' := 7) (lv' := [(3, .int 7), (2, .int (sm_n m 7)), (0, .long m)]) (st' := [.int 9, .int 7]) rfl ?_
  refine mi_ic_ge okX5_sumOf rfl rfl (fun c_7 => absurd c_7 (by decide)) (fun c_7 => ?_)
  refine mi_blk okX5_sumOf 6 (pc' := 16) (lv' := [(3, .int 7), (2, .int (sm_n m 7)), (0, .long m)]) (st' := [.int 7, .long m, .int 8, .int (sm_n m 7)]) rfl ?_
  refine mi_callS okX5_sumOf (mc := 0) (ms := 0) (mc' := 0) (ms' := 0) (As := [.long m, .int 7]) (st := [.int 8, .int (sm_n m 7)]) rfl cs_RX5_86 rfl (by decide) (Nat.le_of_ble_eq_true rfl) c_nibbleOf (fun r h1 q => ?_)
  obtain ⟨rfl, e9⟩ := q; have e9 := e9.symm; subst e9
  change mi_W pP X kX5_sumOf 1 0 0 19 [(3, .int 7), (2, .int (sm_n m 7)), (0, .long m)] [.int (bl_at m 7), .int 8, .int (sm_n m 7)] h _
  refine mi_blk okX5_sumOf 5 (pc' := 4) (lv' := [(3, .int 8), (2, .int ((sm_n m 7) + (8 * (bl_at m 7)))), (0, .long m)]) (st' := []) rfl ?_
  change mi_W pP X kX5_sumOf 1 0 0 4 [(3, .int 8), (2, .int (sm_n m 8)), (0, .long m)] [] h _
  refine mi_blk okX5_sumOf 1 (pc' := 5) (lv' := [(3, .int 8), (2, .int (sm_n m 8)), (0, .long m)]) (st' := [.int 8]) rfl ?_
  refine mi_blk okX5_sumOf 1 (pc' := 7) (lv' := [(3, .int 8), (2, .int (sm_n m 8)), (0, .long m)]) (st' := [.int 9, .int 8]) rfl ?_
  refine mi_ic_ge okX5_sumOf rfl rfl (fun c_7 => absurd c_7 (by decide)) (fun c_7 => ?_)
  refine mi_blk okX5_sumOf 6 (pc' := 16) (lv' := [(3, .int 8), (2, .int (sm_n m 8)), (0, .long m)]) (st' := [.int 8, .long m, .int 9, .int (sm_n m 8)]) rfl ?_
  refine mi_callS okX5_sumOf (mc := 0) (ms := 0) (mc' := 0) (ms' := 0) (As := [.long m, .int 8]) (st := [.int 9, .int (sm_n m 8)]) rfl cs_RX5_86 rfl (by decide) (Nat.le_of_ble_eq_true rfl) c_nibbleOf (fun r h1 q => ?_)
  obtain ⟨rfl, e9⟩ := q; have e9 := e9.symm; subst e9
  change mi_W pP X kX5_sumOf 1 0 0 19 [(3, .int 8), (2, .int (sm_n m 8)), (0, .long m)] [.int (bl_at m 8), .int 9, .int (sm_n m 8)] h _
  refine mi_blk okX5_sumOf 5 (pc' := 4) (lv' := [(3, .int 9), (2, .int ((sm_n m 8) + (9 * (bl_at m 8)))), (0, .long m)]) (st' := []) rfl ?_
  change mi_W pP X kX5_sumOf 1 0 0 4 [(3, .int 9), (2, .int (sm_n m 9)), (0, .long m)] [] h _
  refine mi_blk okX5_sumOf 1 (pc' := 5) (lv' := [(3, .int 9), (2, .int (sm_n m 9)), (0, .long m)]) (st' := [.int 9]) rfl ?_
  refine mi_blk okX5_sumOf 1 (pc' := 7) (lv' := [(3, .int 9), (2, .int (sm_n m 9)), (0, .long m)]) (st' := [.int 9, .int 9]) rfl ?_
  refine mi_ic_ge okX5_sumOf rfl rfl (fun c_7 => ?_) (fun c_7 => absurd (by decide) c_7)
  refine mi_blk okX5_sumOf 2 (pc' := 32) (lv' := [(3, .int 9), (2, .int (sm_n m 9)), (0, .long m)]) (st' := [.int 251, .int (sm_n m 9)]) rfl ?_
  refine mi_irem okX5_sumOf rfl (by decide) ?_
  exact mi_ret_i okX5_sumOf rfl rfl rfl ⟨rfl, rfl⟩
set_option maxHeartbeats 4000000 in
set_option maxRecDepth 100000 in
theorem c_mixed {X : mi_X} {h : mi_H} {a b : Nat} {n : Int32} {q : se_S} (hE : 6 ≤ a) (ha : a < h.1) (hc : h.2 a = se_c n b q) {m : Int64} : mi_S pP X kX5_mixed 0 [.ref a, .long m] h 0 0 (fun r h1 => r = some (.long (se_mix n m)) ∧ h1 = h) := by
  refine enX5_mixed (Nat.le_of_ble_eq_true rfl) ?_
  refine mi_blk okX5_mixed 4 (pc' := 5) (lv' := [(3, .long 0), (0, .ref a), (1, .long m)]) (st' := [.ref a, .int 7]) rfl ?_
  refine mi_getf okX5_mixed rfl fg_RX5_47 hE ha hc (v := .int n) rfl ?_
  refine mi_blk okX5_mixed 4 (pc' := 13) (lv' := [(3, .long 0), (0, .ref a), (1, .long m)]) (st' := [.int 16, .int ((7 * n) + 3)]) rfl ?_
  refine mi_irem okX5_mixed rfl (by decide) ?_
  refine mi_blk okX5_mixed 3 (pc' := 19) (lv' := [(6, .int 0), (5, .int (((7 * n) + 3) - ((7 * n) + 3) / 16 * 16)), (3, .long 0), (0, .ref a), (1, .long m)]) (st' := []) rfl ?_
  change mi_W pP X kX5_mixed 0 0 0 19 [(6, .int 0), (5, .int (mx_n n 0)), (3, .long (ms_n n 0)), (0, .ref a), (1, .long m)] [] h _
  refine mi_blk okX5_mixed 1 (pc' := 21) (lv' := [(6, .int 0), (5, .int (mx_n n 0)), (3, .long (ms_n n 0)), (0, .ref a), (1, .long m)]) (st' := [.int 0]) rfl ?_
  refine mi_blk okX5_mixed 1 (pc' := 23) (lv' := [(6, .int 0), (5, .int (mx_n n 0)), (3, .long (ms_n n 0)), (0, .ref a), (1, .long m)]) (st' := [.int 9, .int 0]) rfl ?_
  refine mi_ic_ge okX5_mixed rfl rfl (fun c_23 => absurd c_23 (by decide)) (fun c_23 => ?_)
  refine mi_blk okX5_mixed 15 (pc' := 45) (lv' := [(3, .long ((ms_n n 0) ||| (mi_lshl ((mx_n n 0).toInt64) 0))), (6, .int 0), (5, .int (mx_n n 0)), (0, .ref a), (1, .long m)]) (st' := [.int 16, .int ((5 * (mx_n n 0)) + 3)]) rfl ?_
  refine mi_irem okX5_mixed rfl (by decide) ?_
  refine mi_blk okX5_mixed 3 (pc' := 19) (lv' := [(6, .int 1), (5, .int (((5 * (mx_n n 0)) + 3) - ((5 * (mx_n n 0)) + 3) / 16 * 16)), (3, .long ((ms_n n 0) ||| (mi_lshl ((mx_n n 0).toInt64) 0))), (0, .ref a), (1, .long m)]) (st' := []) rfl ?_
  change mi_W pP X kX5_mixed 0 0 0 19 [(6, .int 1), (5, .int (mx_n n 1)), (3, .long (ms_n n 1)), (0, .ref a), (1, .long m)] [] h _
  refine mi_blk okX5_mixed 1 (pc' := 21) (lv' := [(6, .int 1), (5, .int (mx_n n 1)), (3, .long (ms_n n 1)), (0, .ref a), (1, .long m)]) (st' := [.int 1]) rfl ?_
  refine mi_blk okX5_mixed 1 (pc' := 23) (lv' := [(6, .int 1), (5, .int (mx_n n 1)), (3, .long (ms_n n 1)), (0, .ref a), (1, .long m)]) (st' := [.int 9, .int 1]) rfl ?_
  refine mi_ic_ge okX5_mixed rfl rfl (fun c_23 => absurd c_23 (by decide)) (fun c_23 => ?_)
  refine mi_blk okX5_mixed 15 (pc' := 45) (lv' := [(3, .long ((ms_n n 1) ||| (mi_lshl ((mx_n n 1).toInt64) 4))), (6, .int 1), (5, .int (mx_n n 1)), (0, .ref a), (1, .long m)]) (st' := [.int 16, .int ((5 * (mx_n n 1)) + 3)]) rfl ?_
  refine mi_irem okX5_mixed rfl (by decide) ?_
  refine mi_blk okX5_mixed 3 (pc' := 19) (lv' := [(6, .int 2), (5, .int (((5 * (mx_n n 1)) + 3) - ((5 * (mx_n n 1)) + 3) / 16 * 16)), (3, .long ((ms_n n 1) ||| (mi_lshl ((mx_n n 1).toInt64) 4))), (0, .ref a), (1, .long m)]) (st' := []) rfl ?_
  change mi_W pP X kX5_mixed 0 0 0 19 [(6, .int 2), (5, .int (mx_n n 2)), (3, .long (ms_n n 2)), (0, .ref a), (1, .long m)] [] h _
  refine mi_blk okX5_mixed 1 (pc' := 21) (lv' := [(6, .int 2), (5, .int (mx_n n 2)), (3, .long (ms_n n 2)), (0, .ref a), (1, .long m)]) (st' := [.int 2]) rfl ?_
  refine mi_blk okX5_mixed 1 (pc' := 23) (lv' := [(6, .int 2), (5, .int (mx_n n 2)), (3, .long (ms_n n 2)), (0, .ref a), (1, .long m)]) (st' := [.int 9, .int 2]) rfl ?_
  refine mi_ic_ge okX5_mixed rfl rfl (fun c_23 => absurd c_23 (by decide)) (fun c_23 => ?_)
  refine mi_blk okX5_mixed 15 (pc' := 45) (lv' := [(3, .long ((ms_n n 2) ||| (mi_lshl ((mx_n n 2).toInt64) 8))), (6, .int 2), (5, .int (mx_n n 2)), (0, .ref a), (1, .long m)]) (st' := [.int 16, .int ((5 * (mx_n n 2)) + 3)]) rfl ?_
  refine mi_irem okX5_mixed rfl (by decide) ?_
  refine mi_blk okX5_mixed 3 (pc' := 19) (lv' := [(6, .int 3), (5, .int (((5 * (mx_n n 2)) + 3) - ((5 * (mx_n n 2)) + 3) / 16 * 16)), (3, .long ((ms_n n 2) ||| (mi_lshl ((mx_n n 2).toInt64) 8))), (0, .ref a), (1, .long m)]) (st' := []) rfl ?_
  change mi_W pP X kX5_mixed 0 0 0 19 [(6, .int 3), (5, .int (mx_n n 3)), (3, .long (ms_n n 3)), (0, .ref a), (1, .long m)] [] h _
  refine mi_blk okX5_mixed 1 (pc' := 21) (lv' := [(6, .int 3), (5, .int (mx_n n 3)), (3, .long (ms_n n 3)), (0, .ref a), (1, .long m)]) (st' := [.int 3]) rfl ?_
  refine mi_blk okX5_mixed 1 (pc' := 23) (lv' := [(6, .int 3), (5, .int (mx_n n 3)), (3, .long (ms_n n 3)), (0, .ref a), (1, .long m)]) (st' := [.int 9, .int 3]) rfl ?_
  refine mi_ic_ge okX5_mixed rfl rfl (fun c_23 => absurd c_23 (by decide)) (fun c_23 => ?_)
  refine mi_blk okX5_mixed 15 (pc' := 45) (lv' := [(3, .long ((ms_n n 3) ||| (mi_lshl ((mx_n n 3).toInt64) 12))), (6, .int 3), (5, .int (mx_n n 3)), (0, .ref a), (1, .long m)]) (st' := [.int 16, .int ((5 * (mx_n n 3)) + 3)]) rfl ?_
  refine mi_irem okX5_mixed rfl (by decide) ?_
  refine mi_blk okX5_mixed 3 (pc' := 19) (lv' := [(6, .int 4), (5, .int (((5 * (mx_n n 3)) + 3) - ((5 * (mx_n n 3)) + 3) / 16 * 16)), (3, .long ((ms_n n 3) ||| (mi_lshl ((mx_n n 3).toInt64) 12))), (0, .ref a), (1, .long m)]) (st' := []) rfl ?_
  change mi_W pP X kX5_mixed 0 0 0 19 [(6, .int 4), (5, .int (mx_n n 4)), (3, .long (ms_n n 4)), (0, .ref a), (1, .long m)] [] h _
  refine mi_blk okX5_mixed 1 (pc' := 21) (lv' := [(6, .int 4), (5, .int (mx_n n 4)), (3, .long (ms_n n 4)), (0, .ref a), (1, .long m)]) (st' := [.int 4]) rfl ?_
  refine mi_blk okX5_mixed 1 (pc' := 23) (lv' := [(6, .int 4), (5, .int (mx_n n 4)), (3, .long (ms_n n 4)), (0, .ref a), (1, .long m)]) (st' := [.int 9, .int 4]) rfl ?_
  refine mi_ic_ge okX5_mixed rfl rfl (fun c_23 => absurd c_23 (by decide)) (fun c_23 => ?_)
  refine mi_blk okX5_mixed 15 (pc' := 45) (lv' := [(3, .long ((ms_n n 4) ||| (mi_lshl ((mx_n n 4).toInt64) 16))), (6, .int 4), (5, .int (mx_n n 4)), (0, .ref a), (1, .long m)]) (st' := [.int 16, .int ((5 * (mx_n n 4)) + 3)]) rfl ?_
  refine mi_irem okX5_mixed rfl (by decide) ?_
  refine mi_blk okX5_mixed 3 (pc' := 19) (lv' := [(6, .int 5), (5, .int (((5 * (mx_n n 4)) + 3) - ((5 * (mx_n n 4)) + 3) / 16 * 16)), (3, .long ((ms_n n 4) ||| (mi_lshl ((mx_n n 4).toInt64) 16))), (0, .ref a), (1, .long m)]) (st' := []) rfl ?_
  change mi_W pP X kX5_mixed 0 0 0 19 [(6, .int 5), (5, .int (mx_n n 5)), (3, .long (ms_n n 5)), (0, .ref a), (1, .long m)] [] h _
  refine mi_blk okX5_mixed 1 (pc' := 21) (lv' := [(6, .int 5), (5, .int (mx_n n 5)), (3, .long (ms_n n 5)), (0, .ref a), (1, .long m)]) (st' := [.int 5]) rfl ?_
  refine mi_blk okX5_mixed 1 (pc' := 23) (lv' := [(6, .int 5), (5, .int (mx_n n 5)), (3, .long (ms_n n 5)), (0, .ref a), (1, .long m)]) (st' := [.int 9, .int 5]) rfl ?_
  refine mi_ic_ge okX5_mixed rfl rfl (fun c_23 => absurd c_23 (by decide)) (fun c_23 => ?_)
  refine mi_blk okX5_mixed 15 (pc' := 45) (lv' := [(3, .long ((ms_n n 5) ||| (mi_lshl ((mx_n n 5).toInt64) 20))), (6, .int 5), (5, .int (mx_n n 5)), (0, .ref a), (1, .long m)]) (st' := [.int 16, .int ((5 * (mx_n n 5)) + 3)]) rfl ?_
  refine mi_irem okX5_mixed rfl (by decide) ?_
  refine mi_blk okX5_mixed 3 (pc' := 19) (lv' := [(6, .int 6), (5, .int (((5 * (mx_n n 5)) + 3) - ((5 * (mx_n n 5)) + 3) / 16 * 16)), (3, .long ((ms_n n 5) ||| (mi_lshl ((mx_n n 5).toInt64) 20))), (0, .ref a), (1, .long m)]) (st' := []) rfl ?_
  change mi_W pP X kX5_mixed 0 0 0 19 [(6, .int 6), (5, .int (mx_n n 6)), (3, .long (ms_n n 6)), (0, .ref a), (1, .long m)] [] h _
  refine mi_blk okX5_mixed 1 (pc' := 21) (lv' := [(6, .int 6), (5, .int (mx_n n 6)), (3, .long (ms_n n 6)), (0, .ref a), (1, .long m)]) (st' := [.int 6]) rfl ?_
  refine mi_blk okX5_mixed 1 (pc' := 23) (lv' := [(6, .int 6), (5, .int (mx_n n 6)), (3, .long (ms_n n 6)), (0, .ref a), (1, .long m)]) (st' := [.int 9, .int 6]) rfl ?_
  refine mi_ic_ge okX5_mixed rfl rfl (fun c_23 => absurd c_23 (by decide)) (fun c_23 => ?_)
  refine mi_blk okX5_mixed 15 (pc' := 45) (lv' := [(3, .long ((ms_n n 6) ||| (mi_lshl ((mx_n n 6).toInt64) 24))), (6, .int 6), (5, .int (mx_n n 6)), (0, .ref a), (1, .long m)]) (st' := [.int 16, .int ((5 * (mx_n n 6)) + 3)]) rfl ?_
  refine mi_irem okX5_mixed rfl (by decide) ?_
  refine mi_blk okX5_mixed 3 (pc' := 19) (lv' := [(6, .int 7), (5, .int (((5 * (mx_n n 6)) + 3) - ((5 * (mx_n n 6)) + 3) / 16 * 16)), (3, .long ((ms_n n 6) ||| (mi_lshl ((mx_n n 6).toInt64) 24))), (0, .ref a), (1, .long m)]) (st' := []) rfl ?_
  change mi_W pP X kX5_mixed 0 0 0 19 [(6, .int 7), (5, .int (mx_n n 7)), (3, .long (ms_n n 7)), (0, .ref a), (1, .long m)] [] h _
  refine mi_blk okX5_mixed 1 (pc' := 21) (lv' := [(6, .int 7), (5, .int (mx_n n 7)), (3, .long (ms_n n 7)), (0, .ref a), (1, .long m)]) (st' := [.int 7]) rfl ?_
  refine mi_blk okX5_mixed 1 (pc' := 23) (lv' := [(6, .int 7), (5, .int (mx_n n 7)), (3, .long (ms_n n 7)), (0, .ref a), (1, .long m)]) (st' := [.int 9, .int 7]) rfl ?_
  refine mi_ic_ge okX5_mixed rfl rfl (fun c_23 => absurd c_23 (by decide)) (fun c_23 => ?_)
  refine mi_blk okX5_mixed 15 (pc' := 45) (lv' := [(3, .long ((ms_n n 7) ||| (mi_lshl ((mx_n n 7).toInt64) 28))), (6, .int 7), (5, .int (mx_n n 7)), (0, .ref a), (1, .long m)]) (st' := [.int 16, .int ((5 * (mx_n n 7)) + 3)]) rfl ?_
  refine mi_irem okX5_mixed rfl (by decide) ?_
  refine mi_blk okX5_mixed 3 (pc' := 19) (lv' := [(6, .int 8), (5, .int (((5 * (mx_n n 7)) + 3) - ((5 * (mx_n n 7)) + 3) / 16 * 16)), (3, .long ((ms_n n 7) ||| (mi_lshl ((mx_n n 7).toInt64) 28))), (0, .ref a), (1, .long m)]) (st' := []) rfl ?_
  change mi_W pP X kX5_mixed 0 0 0 19 [(6, .int 8), (5, .int (mx_n n 8)), (3, .long (ms_n n 8)), (0, .ref a), (1, .long m)] [] h _
  refine mi_blk okX5_mixed 1 (pc' := 21) (lv' := [(6, .int 8), (5, .int (mx_n n 8)), (3, .long (ms_n n 8)), (0, .ref a), (1, .long m)]) (st' := [.int 8]) rfl ?_
  refine mi_blk okX5_mixed 1 (pc' := 23) (lv' := [(6, .int 8), (5, .int (mx_n n 8)), (3, .long (ms_n n 8)), (0, .ref a), (1, .long m)]) (st' := [.int 9, .int 8]) rfl ?_
  refine mi_ic_ge okX5_mixed rfl rfl (fun c_23 => absurd c_23 (by decide)) (fun c_23 => ?_)
  refine mi_blk okX5_mixed 15 (pc' := 45) (lv' := [(3, .long ((ms_n n 8) ||| (mi_lshl ((mx_n n 8).toInt64) 32))), (6, .int 8), (5, .int (mx_n n 8)), (0, .ref a), (1, .long m)]) (st' := [.int 16, .int ((5 * (mx_n n 8)) + 3)]) rfl ?_
  refine mi_irem okX5_mixed rfl (by decide) ?_
  refine mi_blk okX5_mixed 3 (pc' := 19) (lv' := [(6, .int 9), (5, .int (((5 * (mx_n n 8)) + 3) - ((5 * (mx_n n 8)) + 3) / 16 * 16)), (3, .long ((ms_n n 8) ||| (mi_lshl ((mx_n n 8).toInt64) 32))), (0, .ref a), (1, .long m)]) (st' := []) rfl ?_
  change mi_W pP X kX5_mixed 0 0 0 19 [(6, .int 9), (5, .int (mx_n n 9)), (3, .long (ms_n n 9)), (0, .ref a), (1, .long m)] [] h _
  refine mi_blk okX5_mixed 1 (pc' := 21) (lv' := [(6, .int 9), (5, .int (mx_n n 9)), (3, .long (ms_n n 9)), (0, .ref a), (1, .long m)]) (st' := [.int 9]) rfl ?_
  refine mi_blk okX5_mixed 1 (pc' := 23) (lv' := [(6, .int 9), (5, .int (mx_n n 9)), (3, .long (ms_n n 9)), (0, .ref a), (1, .long m)]) (st' := [.int 9, .int 9]) rfl ?_
  refine mi_ic_ge okX5_mixed rfl rfl (fun c_23 => ?_) (fun c_23 => absurd (by decide) c_23)
  refine mi_blk okX5_mixed 3 (pc' := 57) (lv' := [(6, .int 9), (5, .int (mx_n n 9)), (3, .long (ms_n n 9)), (0, .ref a), (1, .long m)]) (st' := [.long (m ^^^ (ms_n n 9))]) rfl ?_
  exact mi_ret_l okX5_mixed rfl rfl ⟨rfl, rfl⟩
set_option maxHeartbeats 4000000 in
set_option maxRecDepth 100000 in
theorem c_raw {X : mi_X} {h : mi_H} {a b : Nat} {n : Int32} {q : se_S} (hE : 6 ≤ a) (ha : a < h.1) (hc : h.2 a = se_c n b q) {v : Int64} {e : Int32} (hB : 6 ≤ b) (hb : b < h.1) (hcb : h.2 b = bl_c v e) : mi_S pP X kX5_raw 2 [.ref a] h 0 0 (fun r h1 => r = some (.long (if q.1 = 0 then -1 else se_mix n (ga_n v 9))) ∧ h1 = h) := by
  refine enX5_raw (Nat.le_of_ble_eq_true rfl) ?_
  refine mi_blk okX5_raw 1 (pc' := 1) (lv' := [(0, .ref a)]) (st' := [.ref a]) rfl ?_
  refine mi_getf okX5_raw rfl fg_RX5_18 hE ha hc (v := .int q.1) rfl ?_
  refine mi_if_eq okX5_raw rfl rfl (fun c_4 => ?_) (fun c_4 => ?_)
  · refine mi_ldc2 okX5_raw (v := (-1 : Int64)) rfl kc_RX5_32 ?_
    exact mi_ret_l okX5_raw rfl rfl ⟨by rw [if_pos c_4], rfl⟩
  · refine mi_blk okX5_raw 2 (pc' := 9) (lv' := [(0, .ref a)]) (st' := [.ref a, .ref a]) rfl ?_
    refine mi_getf okX5_raw rfl fg_RX5_12 hE ha hc (v := .ref b) rfl ?_
    refine mi_callV okX5_raw (mc := 0) (ms := 0) (mc' := 0) (ms' := 0) (b := b) (As := []) (st := [.ref a]) rfl cv_RX5_82 rfl (by decide) hB hb hcb rfl (Nat.le_of_ble_eq_true rfl) (c_gathered (h := h) hB hb hcb) (fun r h1 q => ?_)
    obtain ⟨rfl, e9⟩ := q; have e9 := e9.symm; subst e9
    change mi_W pP X kX5_raw 2 0 0 15 [(0, .ref a)] [.long (ga_n v 9), .ref a] h _
    refine mi_callV okX5_raw (mc := 0) (ms := 0) (mc' := 0) (ms' := 0) (b := a) (As := [.long (ga_n v 9)]) (st := []) rfl cv_RX5_54 rfl (by decide) hE ha hc rfl (Nat.le_of_ble_eq_true rfl) (c_mixed (h := h) (q := q) hE ha hc) (fun r h1 q => ?_)
    obtain ⟨rfl, e9⟩ := q; have e9 := e9.symm; subst e9
    change mi_W pP X kX5_raw 2 0 0 18 [(0, .ref a)] [.long (se_mix n (ga_n v 9))] h _
    refine mi_blk okX5_raw 1 (pc' := 24) (lv' := [(0, .ref a)]) (st' := [.long (se_mix n (ga_n v 9))]) rfl ?_
    exact mi_ret_l okX5_raw rfl rfl ⟨by rw [if_neg c_4], rfl⟩
set_option maxHeartbeats 4000000 in
set_option maxRecDepth 100000 in
theorem c_judged {X : mi_X} {h : mi_H} {a b : Nat} {n : Int32} {q : se_S} (hE : 6 ≤ a) (ha : a < h.1) (hc : h.2 a = se_c n b q) {p : Nat} {v : Int64} {e : Int32} (hP : 6 ≤ p) (hp : p < h.1) (hcp : h.2 p = bl_c v e) : mi_S pP X kX5_judged 3 [.ref a, .ref p] h 0 0 (fun r h1 => r = some (.int (se_jd n q.1 q.2.1 q.2.2.1 v e)) ∧ h1 = h) := by
  refine enX5_judged (Nat.le_of_ble_eq_true rfl) ?_
  refine mi_blk okX5_judged 1 (pc' := 1) (lv' := [(0, .ref a), (1, .ref p)]) (st' := [.ref a]) rfl ?_
  refine mi_getf okX5_judged rfl fg_RX5_18 hE ha hc (v := .int q.1) rfl ?_
  refine mi_if_eq okX5_judged rfl rfl (fun c_4 => ?_) (fun c_4 => ?_)
  · refine mi_blk okX5_judged 1 (pc' := 15) (lv' := [(0, .ref a), (1, .ref p)]) (st' := [.int 2]) rfl ?_
    exact mi_ret_i okX5_judged rfl rfl rfl ⟨by rw [se_jd, if_pos c_4], rfl⟩
  · refine mi_blk okX5_judged 1 (pc' := 8) (lv' := [(0, .ref a), (1, .ref p)]) (st' := [.ref p]) rfl ?_
    refine mi_getf okX5_judged rfl fg_RX5_118 hP hp hcp (v := .int e) rfl ?_
    refine mi_if_eq okX5_judged rfl rfl (fun c_11 => ?_) (fun c_11 => ?_)
    · refine mi_blk okX5_judged 1 (pc' := 17) (lv' := [(0, .ref a), (1, .ref p)]) (st' := [.ref a]) rfl ?_
      refine mi_getf okX5_judged rfl fg_RX5_22 hE ha hc (v := .int q.2.1) rfl ?_
      refine mi_if_eq okX5_judged rfl rfl (fun c_20 => ?_) (fun c_20 => ?_)
      · refine mi_blk okX5_judged 4 (pc' := 48) (lv' := [(2, .int 1), (0, .ref a), (1, .ref p)]) (st' := [.int 1]) rfl ?_
        refine mi_if_eq okX5_judged rfl rfl (fun c_48 => absurd c_48 (by decide)) (fun c_48 => ?_)
        refine mi_blk okX5_judged 1 (pc' := 52) (lv' := [(2, .int 1), (0, .ref a), (1, .ref p)]) (st' := [.ref p]) rfl ?_
        refine mi_callV okX5_judged (mc := 0) (ms := 0) (mc' := 0) (ms' := 0) (b := p) (As := []) (st := []) rfl cv_RX5_121 rfl (by decide) hP hp hcp rfl (Nat.le_of_ble_eq_true rfl) (c_isEven (h := h) hP hp hcp) (fun r h1 q => ?_)
        obtain ⟨rfl, e9⟩ := q; have e9 := e9.symm; subst e9
        change mi_W pP X kX5_judged 3 0 0 55 [(2, .int 1), (0, .ref a), (1, .ref p)] [.int (bl_even v)] h _
        refine mi_if_eq okX5_judged rfl rfl (fun c_55 => ?_) (fun c_55 => ?_)
        · refine mi_blk okX5_judged 1 (pc' := 63) (lv' := [(2, .int 1), (0, .ref a), (1, .ref p)]) (st' := [.int 1]) rfl ?_
          exact mi_ret_i okX5_judged rfl rfl rfl ⟨by rw [se_jd, if_neg c_4, if_pos c_11, if_pos (Or.inl c_20), if_pos c_55], rfl⟩
        · refine mi_blk okX5_judged 2 (pc' := 63) (lv' := [(2, .int 1), (0, .ref a), (1, .ref p)]) (st' := [.int 0]) rfl ?_
          exact mi_ret_i okX5_judged rfl rfl rfl ⟨by rw [se_jd, if_neg c_4, if_pos c_11, if_pos (Or.inl c_20), if_neg c_55], rfl⟩
      · refine mi_blk okX5_judged 2 (pc' := 25) (lv' := [(0, .ref a), (1, .ref p)]) (st' := [.ref p, .ref a]) rfl ?_
        refine mi_callV okX5_judged (mc := 0) (ms := 0) (mc' := 0) (ms' := 0) (b := p) (As := []) (st := [.ref a]) rfl cv_RX5_82 rfl (by decide) hP hp hcp rfl (Nat.le_of_ble_eq_true rfl) (c_gathered (h := h) hP hp hcp) (fun r h1 q => ?_)
        obtain ⟨rfl, e9⟩ := q; have e9 := e9.symm; subst e9
        change mi_W pP X kX5_judged 3 0 0 28 [(0, .ref a), (1, .ref p)] [.long (ga_n v 9), .ref a] h _
        refine mi_callV okX5_judged (mc := 0) (ms := 0) (mc' := 0) (ms' := 0) (b := a) (As := [.long (ga_n v 9)]) (st := []) rfl cv_RX5_54 rfl (by decide) hE ha hc rfl (Nat.le_of_ble_eq_true rfl) (c_mixed (h := h) (q := q) hE ha hc) (fun r h1 q => ?_)
        obtain ⟨rfl, e9⟩ := q; have e9 := e9.symm; subst e9
        change mi_W pP X kX5_judged 3 0 0 31 [(0, .ref a), (1, .ref p)] [.long (se_mix n (ga_n v 9))] h _
        refine mi_callS okX5_judged (mc := 0) (ms := 0) (mc' := 0) (ms' := 0) (As := [.long (se_mix n (ga_n v 9))]) (st := []) rfl cs_RX5_50 rfl (by decide) (Nat.le_of_ble_eq_true rfl) c_sumOf (fun r h1 q => ?_)
        obtain ⟨rfl, e9⟩ := q; have e9 := e9.symm; subst e9
        change mi_W pP X kX5_judged 3 0 0 34 [(0, .ref a), (1, .ref p)] [.int (se_sum (se_mix n (ga_n v 9)))] h _
        refine mi_blk okX5_judged 1 (pc' := 35) (lv' := [(0, .ref a), (1, .ref p)]) (st' := [.ref a, .int (se_sum (se_mix n (ga_n v 9)))]) rfl ?_
        refine mi_getf okX5_judged rfl fg_RX5_25 hE ha hc (v := .int q.2.2.1) rfl ?_
        refine mi_ic_ne okX5_judged rfl rfl (fun c_38 => ?_) (fun c_38 => ?_)
        · refine mi_blk okX5_judged 3 (pc' := 48) (lv' := [(2, .int 0), (0, .ref a), (1, .ref p)]) (st' := [.int 0]) rfl ?_
          refine mi_if_eq okX5_judged rfl rfl (fun c_48 => ?_) (fun c_48 => absurd (by decide) c_48)
          refine mi_blk okX5_judged 1 (pc' := 63) (lv' := [(2, .int 0), (0, .ref a), (1, .ref p)]) (st' := [.int 1]) rfl ?_
          exact mi_ret_i okX5_judged rfl rfl rfl ⟨by rw [se_jd, if_neg c_4, if_pos c_11, if_neg (fun z => z.elim c_20 c_38)], rfl⟩
        · refine mi_blk okX5_judged 4 (pc' := 48) (lv' := [(2, .int 1), (0, .ref a), (1, .ref p)]) (st' := [.int 1]) rfl ?_
          refine mi_if_eq okX5_judged rfl rfl (fun c_48 => absurd c_48 (by decide)) (fun c_48 => ?_)
          refine mi_blk okX5_judged 1 (pc' := 52) (lv' := [(2, .int 1), (0, .ref a), (1, .ref p)]) (st' := [.ref p]) rfl ?_
          refine mi_callV okX5_judged (mc := 0) (ms := 0) (mc' := 0) (ms' := 0) (b := p) (As := []) (st := []) rfl cv_RX5_121 rfl (by decide) hP hp hcp rfl (Nat.le_of_ble_eq_true rfl) (c_isEven (h := h) hP hp hcp) (fun r h1 q => ?_)
          obtain ⟨rfl, e9⟩ := q; have e9 := e9.symm; subst e9
          change mi_W pP X kX5_judged 3 0 0 55 [(2, .int 1), (0, .ref a), (1, .ref p)] [.int (bl_even v)] h _
          refine mi_if_eq okX5_judged rfl rfl (fun c_55 => ?_) (fun c_55 => ?_)
          · refine mi_blk okX5_judged 1 (pc' := 63) (lv' := [(2, .int 1), (0, .ref a), (1, .ref p)]) (st' := [.int 1]) rfl ?_
            exact mi_ret_i okX5_judged rfl rfl rfl ⟨by rw [se_jd, if_neg c_4, if_pos c_11, if_pos (Or.inr c_38), if_pos c_55], rfl⟩
          · refine mi_blk okX5_judged 2 (pc' := 63) (lv' := [(2, .int 1), (0, .ref a), (1, .ref p)]) (st' := [.int 0]) rfl ?_
            exact mi_ret_i okX5_judged rfl rfl rfl ⟨by rw [se_jd, if_neg c_4, if_pos c_11, if_pos (Or.inr c_38), if_neg c_55], rfl⟩
    · refine mi_blk okX5_judged 1 (pc' := 15) (lv' := [(0, .ref a), (1, .ref p)]) (st' := [.int 2]) rfl ?_
      exact mi_ret_i okX5_judged rfl rfl rfl ⟨by rw [se_jd, if_neg c_4, if_neg c_11], rfl⟩
set_option maxHeartbeats 4000000 in
set_option maxRecDepth 100000 in
theorem c_stateWithout {X : mi_X} (hX1 : mi_X1 X)  {h : mi_H} {a b : Nat} {n : Int32} {q : se_S} (hE : 6 ≤ a) (ha : a < h.1) (hc : h.2 a = se_c n b q) {v : Int64} {e : Int32} (hB : 6 ≤ b) (hb : b < h.1) (hcb : h.2 b = bl_c v e) {p : Nat} {vp : Int64} {ep : Int32} (hP : 6 ≤ p) (hp : p < h.1) (hcp : h.2 p = bl_c vp ep) (hpa : p ≠ a) (hpb : p ≠ b) {t : Int32} : mi_S pP X kX5_stateWithout 4 [.ref a, .int t, .ref p] h 0 0 (fun r h1 => r = some (.int (se_jd n q.1 q.2.1 q.2.2.1 (bl_mend (bl_clr (e ||| t) v 16) (e ||| t)).1 (bl_mend (bl_clr (e ||| t) v 16) (e ||| t)).2)) ∧ h1 = mi_set h p (bl_c (bl_mend (bl_clr (e ||| t) v 16) (e ||| t)).1 (bl_mend (bl_clr (e ||| t) v 16) (e ||| t)).2)) := by
  refine enX5_stateWithout (Nat.le_of_ble_eq_true rfl) ?_
  refine mi_blk okX5_stateWithout 2 (pc' := 2) (lv' := [(0, .ref a), (1, .int t), (2, .ref p)]) (st' := [.ref a, .ref p]) rfl ?_
  refine mi_getf okX5_stateWithout rfl fg_RX5_12 hE ha hc (v := .ref b) rfl ?_
  refine mi_callV okX5_stateWithout (mc := 0) (ms := 0) (mc' := 0) (ms' := 0) (b := p) (As := [.ref b]) (st := []) rfl cv_RX5_90 rfl (by decide) hP hp hcp rfl (Nat.le_of_ble_eq_true rfl) (c_copyFrom (h := h) hP hp hcp hB hb hcb hpb.symm) (fun r h1 q => ?_)
  obtain ⟨rfl, e9⟩ := q; have e9 := e9.symm; subst e9
  change mi_W pP X kX5_stateWithout 4 0 0 8 [(0, .ref a), (1, .int t), (2, .ref p)] [] (mi_set h p (.inr (2, [.long v, .int e]))) _
  refine mi_blk okX5_stateWithout 2 (pc' := 10) (lv' := [(0, .ref a), (1, .int t), (2, .ref p)]) (st' := [.int t, .ref p]) rfl ?_
  refine mi_callV okX5_stateWithout (mc := 0) (ms := 0) (mc' := 0) (ms' := 0) (b := p) (As := [.int t]) (st := []) rfl cv_RX5_66 rfl (by decide) hP hp mi_set_self rfl (Nat.le_of_ble_eq_true rfl) (c_erase (h := mi_set h p (.inr (2, [.long v, .int e]))) hP hp mi_set_self) (fun r h1 q => ?_)
  obtain ⟨rfl, e9⟩ := q; have e9 := e9.symm; subst e9
  change mi_W pP X kX5_stateWithout 4 0 0 13 [(0, .ref a), (1, .int t), (2, .ref p)] [] (mi_set (mi_set h p (.inr (2, [.long v, .int e]))) p (.inr (2, [.long (bl_clr (e ||| t) v 16), .int (e ||| t)]))) _
  rw [mi_set_set]
  refine mi_blk okX5_stateWithout 1 (pc' := 14) (lv' := [(0, .ref a), (1, .int t), (2, .ref p)]) (st' := [.ref p]) rfl ?_
  refine mi_callV okX5_stateWithout (mc := 0) (ms := 0) (mc' := 0) (ms' := 0) (b := p) (As := []) (st := []) rfl cv_RX5_94 rfl (by decide) hP hp mi_set_self rfl (Nat.le_of_ble_eq_true rfl) (c_mend hX1 (h := mi_set h p (.inr (2, [.long (bl_clr (e ||| t) v 16), .int (e ||| t)]))) hP hp mi_set_self) (fun r h1 q => ?_)
  obtain ⟨rfl, e9⟩ := q; have e9 := e9.symm; subst e9
  change mi_W pP X kX5_stateWithout 4 0 0 17 [(0, .ref a), (1, .int t), (2, .ref p)] [] (mi_set (mi_set h p (.inr (2, [.long (bl_clr (e ||| t) v 16), .int (e ||| t)]))) p (.inr (2, [.long ((bl_mend (bl_clr (e ||| t) v 16) (e ||| t)).1), .int ((bl_mend (bl_clr (e ||| t) v 16) (e ||| t)).2)]))) _
  rw [mi_set_set]
  refine mi_blk okX5_stateWithout 2 (pc' := 19) (lv' := [(0, .ref a), (1, .int t), (2, .ref p)]) (st' := [.ref p, .ref a]) rfl ?_
  refine mi_callV okX5_stateWithout (mc := 0) (ms := 0) (mc' := 0) (ms' := 0) (b := a) (As := [.ref p]) (st := []) rfl cv_RX5_97 rfl (by decide) hE ha ((mi_set_ne hpa.symm).trans hc) rfl (Nat.le_of_ble_eq_true rfl) (c_judged (h := mi_set h p (.inr (2, [.long ((bl_mend (bl_clr (e ||| t) v 16) (e ||| t)).1), .int ((bl_mend (bl_clr (e ||| t) v 16) (e ||| t)).2)]))) hE ha (q := q) ((mi_set_ne hpa.symm).trans hc) hP hp mi_set_self) (fun r h1 q => ?_)
  obtain ⟨rfl, e9⟩ := q; have e9 := e9.symm; subst e9
  change mi_W pP X kX5_stateWithout 4 0 0 22 [(0, .ref a), (1, .int t), (2, .ref p)] [.int (se_jd n q.1 q.2.1 q.2.2.1 ((bl_mend (bl_clr (e ||| t) v 16) (e ||| t)).1) ((bl_mend (bl_clr (e ||| t) v 16) (e ||| t)).2))] (mi_set h p (.inr (2, [.long ((bl_mend (bl_clr (e ||| t) v 16) (e ||| t)).1), .int ((bl_mend (bl_clr (e ||| t) v 16) (e ||| t)).2)]))) _
  exact mi_ret_i okX5_stateWithout rfl rfl rfl ⟨rfl, rfl⟩
