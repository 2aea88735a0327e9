-- PitHouse$Track: session, mode, first, has, used, links, isClosed
abbrev tr_S : Type := Int32 × Int32 × Int32 × Int32 × Int32 × Int32 × Int32
abbrev tr_c (q : tr_S) : mi_C := .inr (8, [.int q.1, .int q.2.1, .int q.2.2.1, .int q.2.2.2.1, .int q.2.2.2.2.1, .int q.2.2.2.2.2.1, .int q.2.2.2.2.2.2])
def tr_holds (q : tr_S) (x : Int32) : Int32 := if q.2.2.1 ≤ x ∧ x < q.2.2.1 + q.2.2.2.1 then 1 else 0
def tr_room (q : tr_S) : Int32 := if q.2.2.2.2.2.2 = 0 ∧ q.2.2.2.2.1 < q.2.2.2.1 then 1 else 0
set_option maxHeartbeats 4000000 in
set_option maxRecDepth 100000 in
theorem c_reserve {X : mi_X} {h : mi_H} {a : Nat} {q : tr_S} (hE : 6 ≤ a) (ha : a < h.1) (hc : h.2 a = tr_c q) {s1 s2 s3 s4 : Int32} : mi_S pP X kX7_reserve 0 [.ref a, .int s1, .int s2, .int s3, .int s4] h 0 0 (fun r h1 => r = none ∧ h1 = mi_set h a (tr_c (s1, s2, s3, s4, q.2.2.2.2))) := by
  refine enX7_reserve (Nat.le_of_ble_eq_true rfl) ?_
  refine mi_blk okX7_reserve 2 (pc' := 2) (lv' := [(0, .ref a), (1, .int s1), (2, .int s2), (3, .int s3), (4, .int s4)]) (st' := [.int s1, .ref a]) rfl ?_
  refine mi_putf' okX7_reserve rfl fd_RX7_9 hE ha hc (fs' := [.int s1, .int q.2.1, .int q.2.2.1, .int q.2.2.2.1, .int q.2.2.2.2.1, .int q.2.2.2.2.2.1, .int q.2.2.2.2.2.2]) rfl (Nat.le_of_ble_eq_true rfl) rfl rfl ?_
  refine mi_blk okX7_reserve 2 (pc' := 7) (lv' := [(0, .ref a), (1, .int s1), (2, .int s2), (3, .int s3), (4, .int s4)]) (st' := [.int s2, .ref a]) rfl ?_
  refine mi_putf' okX7_reserve rfl fd_RX7_15 hE ha mi_set_self (fs' := [.int s1, .int s2, .int q.2.2.1, .int q.2.2.2.1, .int q.2.2.2.2.1, .int q.2.2.2.2.2.1, .int q.2.2.2.2.2.2]) rfl (Nat.le_of_ble_eq_true rfl) rfl rfl ?_
  rw [mi_set_set]
  refine mi_blk okX7_reserve 2 (pc' := 12) (lv' := [(0, .ref a), (1, .int s1), (2, .int s2), (3, .int s3), (4, .int s4)]) (st' := [.int s3, .ref a]) rfl ?_
  refine mi_putf' okX7_reserve rfl fd_RX7_18 hE ha mi_set_self (fs' := [.int s1, .int s2, .int s3, .int q.2.2.2.1, .int q.2.2.2.2.1, .int q.2.2.2.2.2.1, .int q.2.2.2.2.2.2]) rfl (Nat.le_of_ble_eq_true rfl) rfl rfl ?_
  rw [mi_set_set]
  refine mi_blk okX7_reserve 2 (pc' := 18) (lv' := [(0, .ref a), (1, .int s1), (2, .int s2), (3, .int s3), (4, .int s4)]) (st' := [.int s4, .ref a]) rfl ?_
  refine mi_putf' okX7_reserve rfl fd_RX7_21 hE ha mi_set_self (fs' := [.int s1, .int s2, .int s3, .int s4, .int q.2.2.2.2.1, .int q.2.2.2.2.2.1, .int q.2.2.2.2.2.2]) rfl (Nat.le_of_ble_eq_true rfl) rfl rfl ?_
  rw [mi_set_set]
  exact mi_ret_v okX7_reserve rfl rfl ⟨rfl, rfl⟩
set_option maxHeartbeats 4000000 in
set_option maxRecDepth 100000 in
theorem c_behind {X : mi_X} {h : mi_H} {a : Nat} {q : tr_S} (hE : 6 ≤ a) (ha : a < h.1) (hc : h.2 a = tr_c q) : mi_S pP X kX7_behind 0 [.ref a] h 0 0 (fun r h1 => r = some (.int (q.2.2.1 + q.2.2.2.1)) ∧ h1 = h) := by
  refine enX7_behind (Nat.le_of_ble_eq_true rfl) ?_
  refine mi_blk okX7_behind 1 (pc' := 1) (lv' := [(0, .ref a)]) (st' := [.ref a]) rfl ?_
  refine mi_getf okX7_behind rfl fg_RX7_18 hE ha hc (v := .int q.2.2.1) rfl ?_
  refine mi_blk okX7_behind 1 (pc' := 5) (lv' := [(0, .ref a)]) (st' := [.ref a, .int q.2.2.1]) rfl ?_
  refine mi_getf okX7_behind rfl fg_RX7_21 hE ha hc (v := .int q.2.2.2.1) rfl ?_
  refine mi_blk okX7_behind 1 (pc' := 9) (lv' := [(0, .ref a)]) (st' := [.int (q.2.2.1 + q.2.2.2.1)]) rfl ?_
  exact mi_ret_i okX7_behind rfl rfl rfl ⟨rfl, rfl⟩
theorem mi_lt_nle {x y : Int32} (h : x < y) : ¬ y ≤ x := by rw [Int32.lt_iff_toInt_lt] at h; rw [Int32.le_iff_toInt_le]; omega
theorem mi_nlt_le {x y : Int32} (h : ¬ x < y) : y ≤ x := by rw [Int32.lt_iff_toInt_lt] at h; rw [Int32.le_iff_toInt_le]; omega
set_option maxHeartbeats 4000000 in
set_option maxRecDepth 100000 in
theorem c_holds {X : mi_X} {h : mi_H} {a : Nat} {q : tr_S} (hE : 6 ≤ a) (ha : a < h.1) (hc : h.2 a = tr_c q) {x : Int32} : mi_S pP X kX7_holds 1 [.ref a, .int x] h 0 0 (fun r h1 => r = some (.int (tr_holds q x)) ∧ h1 = h) := by
  refine enX7_holds (Nat.le_of_ble_eq_true rfl) ?_
  refine mi_blk okX7_holds 2 (pc' := 2) (lv' := [(0, .ref a), (1, .int x)]) (st' := [.ref a, .int x]) rfl ?_
  refine mi_getf okX7_holds rfl fg_RX7_18 hE ha hc (v := .int q.2.2.1) rfl ?_
  refine mi_ic_lt okX7_holds rfl rfl (fun c_5 => ?_) (fun c_5 => ?_)
  · refine mi_blk okX7_holds 1 (pc' := 21) (lv' := [(0, .ref a), (1, .int x)]) (st' := [.int 0]) rfl ?_
    exact mi_ret_i okX7_holds rfl rfl rfl ⟨by rw [tr_holds, if_neg (fun z => absurd z.1 (mi_lt_nle c_5))], rfl⟩
  · refine mi_blk okX7_holds 2 (pc' := 10) (lv' := [(0, .ref a), (1, .int x)]) (st' := [.ref a, .int x]) rfl ?_
    refine mi_callV okX7_holds (mc := 0) (ms := 0) (mc' := 0) (ms' := 0) (b := a) (As := []) (st := [.int x]) rfl cv_RX7_34 rfl (by decide) hE ha hc rfl (Nat.le_of_ble_eq_true rfl) (c_behind hE ha hc) (fun r h1 q => ?_)
    obtain ⟨rfl, e9⟩ := q; have e9 := e9.symm; subst e9
    change mi_W pP X kX7_holds 1 0 0 13 [(0, .ref a), (1, .int x)] [.int (q.2.2.1 + q.2.2.2.1), .int x] h _
    refine mi_ic_ge okX7_holds rfl rfl (fun c_13 => ?_) (fun c_13 => ?_)
    · refine mi_blk okX7_holds 1 (pc' := 21) (lv' := [(0, .ref a), (1, .int x)]) (st' := [.int 0]) rfl ?_
      exact mi_ret_i okX7_holds rfl rfl rfl ⟨by rw [tr_holds, if_neg (fun z => absurd z.2 (mi_le_nlt c_13))], rfl⟩
    · refine mi_blk okX7_holds 2 (pc' := 21) (lv' := [(0, .ref a), (1, .int x)]) (st' := [.int 1]) rfl ?_
      exact mi_ret_i okX7_holds rfl rfl rfl ⟨by rw [tr_holds, if_pos ⟨mi_nlt_le c_5, mi_nle_lt c_13⟩], rfl⟩
set_option maxHeartbeats 4000000 in
set_option maxRecDepth 100000 in
theorem c_hasRoom {X : mi_X} {h : mi_H} {a : Nat} {q : tr_S} (hE : 6 ≤ a) (ha : a < h.1) (hc : h.2 a = tr_c q) : mi_S pP X kX7_hasRoom 0 [.ref a] h 0 0 (fun r h1 => r = some (.int (tr_room q)) ∧ h1 = h) := by
  refine enX7_hasRoom (Nat.le_of_ble_eq_true rfl) ?_
  refine mi_blk okX7_hasRoom 1 (pc' := 1) (lv' := [(0, .ref a)]) (st' := [.ref a]) rfl ?_
  refine mi_getf okX7_hasRoom rfl fg_RX7_30 hE ha hc (v := .int q.2.2.2.2.2.2) rfl ?_
  refine mi_if_ne okX7_hasRoom rfl rfl (fun c_4 => ?_) (fun c_4 => ?_)
  · refine mi_blk okX7_hasRoom 1 (pc' := 23) (lv' := [(0, .ref a)]) (st' := [.int 0]) rfl ?_
    exact mi_ret_i okX7_hasRoom rfl rfl rfl ⟨by rw [tr_room, if_neg (fun z => c_4 z.1)], rfl⟩
  · refine mi_blk okX7_hasRoom 1 (pc' := 8) (lv' := [(0, .ref a)]) (st' := [.ref a]) rfl ?_
    refine mi_getf okX7_hasRoom rfl fg_RX7_24 hE ha hc (v := .int q.2.2.2.2.1) rfl ?_
    refine mi_blk okX7_hasRoom 1 (pc' := 12) (lv' := [(0, .ref a)]) (st' := [.ref a, .int q.2.2.2.2.1]) rfl ?_
    refine mi_getf okX7_hasRoom rfl fg_RX7_21 hE ha hc (v := .int q.2.2.2.1) rfl ?_
    refine mi_ic_ge okX7_hasRoom rfl rfl (fun c_15 => ?_) (fun c_15 => ?_)
    · refine mi_blk okX7_hasRoom 1 (pc' := 23) (lv' := [(0, .ref a)]) (st' := [.int 0]) rfl ?_
      exact mi_ret_i okX7_hasRoom rfl rfl rfl ⟨by rw [tr_room, if_neg (fun z => absurd z.2 (mi_le_nlt c_15))], rfl⟩
    · refine mi_blk okX7_hasRoom 2 (pc' := 23) (lv' := [(0, .ref a)]) (st' := [.int 1]) rfl ?_
      exact mi_ret_i okX7_hasRoom rfl rfl rfl ⟨by rw [tr_room, if_pos ⟨c_4, mi_nle_lt c_15⟩], rfl⟩
set_option maxHeartbeats 4000000 in
set_option maxRecDepth 100000 in
theorem c_takeNext {X : mi_X} {h : mi_H} {a : Nat} {q : tr_S} (hE : 6 ≤ a) (ha : a < h.1) (hc : h.2 a = tr_c q) : mi_S pP X kX7_takeNext 0 [.ref a] h 0 0 (fun r h1 => r = some (.int (q.2.2.1 + (q.2.2.2.2.1 + 1) - 1)) ∧ h1 = mi_set h a (tr_c (q.1, q.2.1, q.2.2.1, q.2.2.2.1, q.2.2.2.2.1 + 1, q.2.2.2.2.2))) := by
  refine enX7_takeNext (Nat.le_of_ble_eq_true rfl) ?_
  refine mi_blk okX7_takeNext 2 (pc' := 2) (lv' := [(0, .ref a)]) (st' := [.ref a, .ref a]) rfl ?_
  refine mi_getf okX7_takeNext rfl fg_RX7_24 hE ha hc (v := .int q.2.2.2.2.1) rfl ?_
  refine mi_blk okX7_takeNext 2 (pc' := 7) (lv' := [(0, .ref a)]) (st' := [.int (q.2.2.2.2.1 + 1), .ref a]) rfl ?_
  refine mi_putf' okX7_takeNext rfl fd_RX7_24 hE ha hc (fs' := [.int q.1, .int q.2.1, .int q.2.2.1, .int q.2.2.2.1, .int (q.2.2.2.2.1 + 1), .int q.2.2.2.2.2.1, .int q.2.2.2.2.2.2]) rfl (Nat.le_of_ble_eq_true rfl) rfl rfl ?_
  refine mi_blk okX7_takeNext 1 (pc' := 11) (lv' := [(0, .ref a)]) (st' := [.ref a]) rfl ?_
  refine mi_getf okX7_takeNext rfl fg_RX7_18 hE ha mi_set_self (v := .int q.2.2.1) rfl ?_
  refine mi_blk okX7_takeNext 1 (pc' := 15) (lv' := [(0, .ref a)]) (st' := [.ref a, .int q.2.2.1]) rfl ?_
  refine mi_getf okX7_takeNext rfl fg_RX7_24 hE ha mi_set_self (v := .int (q.2.2.2.2.1 + 1)) rfl ?_
  refine mi_blk okX7_takeNext 3 (pc' := 21) (lv' := [(0, .ref a)]) (st' := [.int ((q.2.2.1 + (q.2.2.2.2.1 + 1)) - 1)]) rfl ?_
  exact mi_ret_i okX7_takeNext rfl rfl rfl ⟨rfl, rfl⟩
set_option maxHeartbeats 4000000 in
set_option maxRecDepth 100000 in
theorem c_giveBack {X : mi_X} {h : mi_H} {a : Nat} {q : tr_S} (hE : 6 ≤ a) (ha : a < h.1) (hc : h.2 a = tr_c q) : mi_S pP X kX7_giveBack 0 [.ref a] h 0 0 (fun r h1 => r = some (.int (q.2.2.2.1 - q.2.2.2.2.1)) ∧ h1 = mi_set h a (tr_c (q.1, q.2.1, q.2.2.1, q.2.2.2.2.1, q.2.2.2.2))) := by
  refine enX7_giveBack (Nat.le_of_ble_eq_true rfl) ?_
  refine mi_blk okX7_giveBack 1 (pc' := 1) (lv' := [(0, .ref a)]) (st' := [.ref a]) rfl ?_
  refine mi_getf okX7_giveBack rfl fg_RX7_21 hE ha hc (v := .int q.2.2.2.1) rfl ?_
  refine mi_blk okX7_giveBack 1 (pc' := 5) (lv' := [(0, .ref a)]) (st' := [.ref a, .int q.2.2.2.1]) rfl ?_
  refine mi_getf okX7_giveBack rfl fg_RX7_24 hE ha hc (v := .int q.2.2.2.2.1) rfl ?_
  refine mi_blk okX7_giveBack 4 (pc' := 12) (lv' := [(1, .int (q.2.2.2.1 - q.2.2.2.2.1)), (0, .ref a)]) (st' := [.ref a, .ref a]) rfl ?_
  refine mi_getf okX7_giveBack rfl fg_RX7_24 hE ha hc (v := .int q.2.2.2.2.1) rfl ?_
  refine mi_putf' okX7_giveBack rfl fd_RX7_21 hE ha hc (fs' := [.int q.1, .int q.2.1, .int q.2.2.1, .int q.2.2.2.2.1, .int q.2.2.2.2.1, .int q.2.2.2.2.2.1, .int q.2.2.2.2.2.2]) rfl (Nat.le_of_ble_eq_true rfl) rfl rfl ?_
  refine mi_blk okX7_giveBack 1 (pc' := 19) (lv' := [(1, .int (q.2.2.2.1 - q.2.2.2.2.1)), (0, .ref a)]) (st' := [.int (q.2.2.2.1 - q.2.2.2.2.1)]) rfl ?_
  exact mi_ret_i okX7_giveBack rfl rfl rfl ⟨rfl, rfl⟩
set_option maxHeartbeats 4000000 in
set_option maxRecDepth 100000 in
theorem c_initBlock {X : mi_X} {h : mi_H} {a : Nat} (hE : 6 ≤ a) (ha : a < h.1) (hc : h.2 a = .inr (2, [.long 0, .int 0])) : mi_S pP X kX1_init 1 [.ref a] h 0 0 (fun r h1 => r = none ∧ h1 = mi_set h a (.inr (2, [.long 0, .int 0]))) := by
  refine enX1_init (Nat.le_of_ble_eq_true rfl) ?_
  refine mi_blk okX1_init 1 (pc' := 1) (lv' := [(0, .ref a)]) (st' := [.ref a]) rfl ?_
  refine mi_objInit okX1_init rfl ob_RX1_3 ob_i ob_c (by decide) (Nat.le_of_ble_eq_true rfl) ?_
  refine mi_blk okX1_init 2 (pc' := 6) (lv' := [(0, .ref a)]) (st' := [.long 0, .ref a]) rfl ?_
  refine mi_putf' okX1_init rfl fd_RX1_9 hE ha hc (fs' := [.long 0, .int 0]) rfl (Nat.le_of_ble_eq_true rfl) rfl rfl ?_
  refine mi_blk okX1_init 2 (pc' := 11) (lv' := [(0, .ref a)]) (st' := [.int 0, .ref a]) rfl ?_
  refine mi_putf' okX1_init rfl fd_RX1_15 hE ha mi_set_self (fs' := [.long 0, .int 0]) rfl (Nat.le_of_ble_eq_true rfl) rfl rfl ?_
  rw [mi_set_set]
  exact mi_ret_v okX1_init rfl rfl ⟨rfl, rfl⟩
set_option maxHeartbeats 4000000 in
set_option maxRecDepth 100000 in
theorem c_initMarks {X : mi_X} {h : mi_H} {a : Nat} (hE : 6 ≤ a) (ha : a < h.1) (hc : h.2 a = .inr (5, [.int 0, .int 0, .int 0, .int 0])) : mi_S pP X kX4_init 1 [.ref a] h 0 0 (fun r h1 => r = none ∧ h1 = mi_set h a (.inr (5, [.int 1, .int 0, .int 0, .int 0]))) := by
  refine enX4_init (Nat.le_of_ble_eq_true rfl) ?_
  refine mi_blk okX4_init 1 (pc' := 1) (lv' := [(0, .ref a)]) (st' := [.ref a]) rfl ?_
  refine mi_objInit okX4_init rfl ob_RX4_1 ob_i ob_c (by decide) (Nat.le_of_ble_eq_true rfl) ?_
  refine mi_blk okX4_init 2 (pc' := 6) (lv' := [(0, .ref a)]) (st' := [.int 1, .ref a]) rfl ?_
  refine mi_putf' okX4_init rfl fd_RX4_7 hE ha hc (fs' := [.int 1, .int 0, .int 0, .int 0]) rfl (Nat.le_of_ble_eq_true rfl) rfl rfl ?_
  refine mi_blk okX4_init 2 (pc' := 11) (lv' := [(0, .ref a)]) (st' := [.int 0, .ref a]) rfl ?_
  refine mi_putf' okX4_init rfl fd_RX4_13 hE ha mi_set_self (fs' := [.int 1, .int 0, .int 0, .int 0]) rfl (Nat.le_of_ble_eq_true rfl) rfl rfl ?_
  rw [mi_set_set]
  refine mi_blk okX4_init 2 (pc' := 16) (lv' := [(0, .ref a)]) (st' := [.int 0, .ref a]) rfl ?_
  refine mi_putf' okX4_init rfl fd_RX4_16 hE ha mi_set_self (fs' := [.int 1, .int 0, .int 0, .int 0]) rfl (Nat.le_of_ble_eq_true rfl) rfl rfl ?_
  rw [mi_set_set]
  refine mi_blk okX4_init 2 (pc' := 21) (lv' := [(0, .ref a)]) (st' := [.int 0, .ref a]) rfl ?_
  refine mi_putf' okX4_init rfl fd_RX4_19 hE ha mi_set_self (fs' := [.int 1, .int 0, .int 0, .int 0]) rfl (Nat.le_of_ble_eq_true rfl) rfl rfl ?_
  rw [mi_set_set]
  exact mi_ret_v okX4_init rfl rfl ⟨rfl, rfl⟩
set_option maxHeartbeats 4000000 in
set_option maxRecDepth 100000 in
theorem c_initDrive {X : mi_X} {h : mi_H} {a : Nat} (hE : 6 ≤ a) (ha : a < h.1) (hc : h.2 a = .inr (3, [.int 0, .double 0, .int 0, .int 0, .int 0])) : mi_S pP X kX2_init 1 [.ref a] h 0 0 (fun r h1 => r = none ∧ h1 = mi_set h a (.inr (3, [.int 0, .double FP.dconst0, .int 0, .int 0, .int 0]))) := by
  refine enX2_init (Nat.le_of_ble_eq_true rfl) ?_
  refine mi_blk okX2_init 1 (pc' := 1) (lv' := [(0, .ref a)]) (st' := [.ref a]) rfl ?_
  refine mi_objInit okX2_init rfl ob_RX2_3 ob_i ob_c (by decide) (Nat.le_of_ble_eq_true rfl) ?_
  refine mi_blk okX2_init 2 (pc' := 6) (lv' := [(0, .ref a)]) (st' := [.int 0, .ref a]) rfl ?_
  refine mi_putf' okX2_init rfl fd_RX2_9 hE ha hc (fs' := [.int 0, .double 0, .int 0, .int 0, .int 0]) rfl (Nat.le_of_ble_eq_true rfl) rfl rfl ?_
  refine mi_blk okX2_init 2 (pc' := 11) (lv' := [(0, .ref a)]) (st' := [.double FP.dconst0, .ref a]) rfl ?_
  refine mi_putf' okX2_init rfl fd_RX2_15 hE ha mi_set_self (fs' := [.int 0, .double FP.dconst0, .int 0, .int 0, .int 0]) rfl (Nat.le_of_ble_eq_true rfl) rfl rfl ?_
  rw [mi_set_set]
  refine mi_blk okX2_init 2 (pc' := 16) (lv' := [(0, .ref a)]) (st' := [.int 0, .ref a]) rfl ?_
  refine mi_putf' okX2_init rfl fd_RX2_19 hE ha mi_set_self (fs' := [.int 0, .double FP.dconst0, .int 0, .int 0, .int 0]) rfl (Nat.le_of_ble_eq_true rfl) rfl rfl ?_
  rw [mi_set_set]
  refine mi_blk okX2_init 2 (pc' := 21) (lv' := [(0, .ref a)]) (st' := [.int 0, .ref a]) rfl ?_
  refine mi_putf' okX2_init rfl fd_RX2_22 hE ha mi_set_self (fs' := [.int 0, .double FP.dconst0, .int 0, .int 0, .int 0]) rfl (Nat.le_of_ble_eq_true rfl) rfl rfl ?_
  rw [mi_set_set]
  refine mi_blk okX2_init 2 (pc' := 26) (lv' := [(0, .ref a)]) (st' := [.int 0, .ref a]) rfl ?_
  refine mi_putf' okX2_init rfl fd_RX2_26 hE ha mi_set_self (fs' := [.int 0, .double FP.dconst0, .int 0, .int 0, .int 0]) rfl (Nat.le_of_ble_eq_true rfl) rfl rfl ?_
  rw [mi_set_set]
  exact mi_ret_v okX2_init rfl rfl ⟨rfl, rfl⟩
set_option maxHeartbeats 4000000 in
set_option maxRecDepth 100000 in
theorem c_initTrack {X : mi_X} {h : mi_H} {a : Nat} (hE : 6 ≤ a) (ha : a < h.1) (hc : h.2 a = .inr (8, [.int 0, .int 0, .int 0, .int 0, .int 0, .int 0, .int 0])) : mi_S pP X kX7_init 1 [.ref a] h 0 0 (fun r h1 => r = none ∧ h1 = mi_set h a (.inr (8, [.int 0, .int 0, .int 0, .int 0, .int 0, .int 0, .int 0]))) := by
  refine enX7_init (Nat.le_of_ble_eq_true rfl) ?_
  refine mi_blk okX7_init 1 (pc' := 1) (lv' := [(0, .ref a)]) (st' := [.ref a]) rfl ?_
  refine mi_objInit okX7_init rfl ob_RX7_3 ob_i ob_c (by decide) (Nat.le_of_ble_eq_true rfl) ?_
  refine mi_blk okX7_init 2 (pc' := 6) (lv' := [(0, .ref a)]) (st' := [.int 0, .ref a]) rfl ?_
  refine mi_putf' okX7_init rfl fd_RX7_9 hE ha hc (fs' := [.int 0, .int 0, .int 0, .int 0, .int 0, .int 0, .int 0]) rfl (Nat.le_of_ble_eq_true rfl) rfl rfl ?_
  refine mi_blk okX7_init 2 (pc' := 11) (lv' := [(0, .ref a)]) (st' := [.int 0, .ref a]) rfl ?_
  refine mi_putf' okX7_init rfl fd_RX7_15 hE ha mi_set_self (fs' := [.int 0, .int 0, .int 0, .int 0, .int 0, .int 0, .int 0]) rfl (Nat.le_of_ble_eq_true rfl) rfl rfl ?_
  rw [mi_set_set]
  refine mi_blk okX7_init 2 (pc' := 16) (lv' := [(0, .ref a)]) (st' := [.int 0, .ref a]) rfl ?_
  refine mi_putf' okX7_init rfl fd_RX7_18 hE ha mi_set_self (fs' := [.int 0, .int 0, .int 0, .int 0, .int 0, .int 0, .int 0]) rfl (Nat.le_of_ble_eq_true rfl) rfl rfl ?_
  rw [mi_set_set]
  refine mi_blk okX7_init 2 (pc' := 21) (lv' := [(0, .ref a)]) (st' := [.int 0, .ref a]) rfl ?_
  refine mi_putf' okX7_init rfl fd_RX7_21 hE ha mi_set_self (fs' := [.int 0, .int 0, .int 0, .int 0, .int 0, .int 0, .int 0]) rfl (Nat.le_of_ble_eq_true rfl) rfl rfl ?_
  rw [mi_set_set]
  refine mi_blk okX7_init 2 (pc' := 26) (lv' := [(0, .ref a)]) (st' := [.int 0, .ref a]) rfl ?_
  refine mi_putf' okX7_init rfl fd_RX7_24 hE ha mi_set_self (fs' := [.int 0, .int 0, .int 0, .int 0, .int 0, .int 0, .int 0]) rfl (Nat.le_of_ble_eq_true rfl) rfl rfl ?_
  rw [mi_set_set]
  refine mi_blk okX7_init 2 (pc' := 31) (lv' := [(0, .ref a)]) (st' := [.int 0, .ref a]) rfl ?_
  refine mi_putf' okX7_init rfl fd_RX7_27 hE ha mi_set_self (fs' := [.int 0, .int 0, .int 0, .int 0, .int 0, .int 0, .int 0]) rfl (Nat.le_of_ble_eq_true rfl) rfl rfl ?_
  rw [mi_set_set]
  refine mi_blk okX7_init 2 (pc' := 36) (lv' := [(0, .ref a)]) (st' := [.int 0, .ref a]) rfl ?_
  refine mi_putf' okX7_init rfl fd_RX7_30 hE ha mi_set_self (fs' := [.int 0, .int 0, .int 0, .int 0, .int 0, .int 0, .int 0]) rfl (Nat.le_of_ble_eq_true rfl) rfl rfl ?_
  rw [mi_set_set]
  exact mi_ret_v okX7_init rfl rfl ⟨rfl, rfl⟩
