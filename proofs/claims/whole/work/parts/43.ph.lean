set_option maxHeartbeats 4000000 in
set_option maxRecDepth 100000 in
theorem c_isSector {X : mi_X} {h : mi_H} {k : Nat} (hk : k < 240) : mi_S pP X kX8_isSector 0 [.int (nI k)] h 0 0 (fun r h1 => r = some (.int 1) ∧ h1 = h) := by
  refine enX8_isSector (Nat.le_of_ble_eq_true rfl) ?_
  refine mi_blk okX8_isSector 1 (pc' := 1) (lv' := [(0, .int (nI k))]) (st' := [.int (nI k)]) rfl ?_
  refine mi_if_lt okX8_isSector rfl rfl (fun c_1 => absurd c_1 (nI_pos (by omega))) (fun c_1 => ?_)
  refine mi_blk okX8_isSector 2 (pc' := 8) (lv' := [(0, .int (nI k))]) (st' := [.int 240, .int (nI k)]) rfl ?_
  refine mi_ic_ge okX8_isSector rfl rfl (fun c_8 => absurd c_8 (nI_ge (a := k) (b := 240) (by omega) (by decide))) (fun c_8 => ?_)
  refine mi_blk okX8_isSector 2 (pc' := 16) (lv' := [(0, .int (nI k))]) (st' := [.int 1]) rfl ?_
  exact mi_ret_i okX8_isSector rfl rfl rfl ⟨rfl, rfl⟩
set_option maxHeartbeats 4000000 in
set_option maxRecDepth 100000 in
theorem c_checkSector {X : mi_X} {h : mi_H} {k : Nat} (hk : k < 240) : mi_S pP X kX8_checkSector 1 [.int (nI k)] h 0 0 (fun r h1 => r = none ∧ h1 = h) := by
  refine enX8_checkSector (Nat.le_of_ble_eq_true rfl) ?_
  refine mi_blk okX8_checkSector 1 (pc' := 1) (lv' := [(0, .int (nI k))]) (st' := [.int (nI k)]) rfl ?_
  refine mi_callS okX8_checkSector (mc := 0) (ms := 0) (mc' := 0) (ms' := 0) (As := [.int (nI k)]) (st := []) rfl cs_RX8_136 rfl (by decide) (Nat.le_of_ble_eq_true rfl) (c_isSector hk) (fun r h1 q => ?_)
  obtain ⟨rfl, e9⟩ := q; have e9 := e9.symm; subst e9
  change mi_W pP X kX8_checkSector 1 0 0 4 [(0, .int (nI k))] [.int 1] h _
  refine mi_if_ne okX8_checkSector rfl rfl (fun c_4 => ?_) (fun c_4 => absurd (by decide) c_4)
  exact mi_ret_v okX8_checkSector rfl rfl ⟨rfl, rfl⟩
set_option maxHeartbeats 4000000 in
set_option maxRecDepth 100000 in
theorem c_left {X : mi_X} {h : mi_H} {B : Nat} {q : ph_T} {fi le : Nat → Nat → Int32} (hw : ph_W B q fi le h) : mi_S pP X kX8_left 0 [.ref B] h 0 0 (fun r h1 => r = some (.int (240 - q.1.2.2.1)) ∧ h1 = h) := by
  refine enX8_left (Nat.le_of_ble_eq_true rfl) ?_
  refine mi_blk okX8_left 2 (pc' := 4) (lv' := [(0, .ref B)]) (st' := [.ref B, .int 240]) rfl ?_
  refine mi_getf okX8_left rfl fg_RX8_49 (by have := hw.z; omega) (by have := hw.z; omega) hw.ph (v := .int q.1.2.2.1) rfl ?_
  refine mi_blk okX8_left 1 (pc' := 8) (lv' := [(0, .ref B)]) (st' := [.int (240 - q.1.2.2.1)]) rfl ?_
  exact mi_ret_i okX8_left rfl rfl rfl ⟨rfl, rfl⟩
set_option maxHeartbeats 4000000 in
set_option maxRecDepth 100000 in
theorem c_trackAt {X : mi_X} {h : mi_H} {B : Nat} {q : ph_T} {fi le : Nat → Nat → Int32} (hw : ph_W B q fi le h) {t : Nat} (ht : t < 8) (htc : nI t < q.1.2.1) : mi_S pP X kX8_trackAt 0 [.ref B, .int (nI t)] h 0 0 (fun r h1 => r = some (.ref (B + 510 + t)) ∧ h1 = h) := by
  refine enX8_trackAt (Nat.le_of_ble_eq_true rfl) ?_
  refine mi_blk okX8_trackAt 1 (pc' := 1) (lv' := [(0, .ref B), (1, .int (nI t))]) (st' := [.int (nI t)]) rfl ?_
  refine mi_if_lt okX8_trackAt rfl rfl (fun c_1 => absurd c_1 (nI_pos (by omega))) (fun c_1 => ?_)
  refine mi_blk okX8_trackAt 2 (pc' := 6) (lv' := [(0, .ref B), (1, .int (nI t))]) (st' := [.ref B, .int (nI t)]) rfl ?_
  refine mi_getf okX8_trackAt rfl fg_RX8_46 (by have := hw.z; omega) (by have := hw.z; omega) hw.ph (v := .int q.1.2.1) rfl ?_
  refine mi_ic_lt okX8_trackAt rfl rfl (fun c_9 => ?_) (fun c_9 => absurd htc c_9)
  refine mi_blk okX8_trackAt 1 (pc' := 24) (lv' := [(0, .ref B), (1, .int (nI t))]) (st' := [.ref B]) rfl ?_
  refine mi_getf okX8_trackAt rfl fg_RX8_17 (by have := hw.z; omega) (by have := hw.z; omega) hw.ph (v := .ref (B + 2)) rfl ?_
  refine mi_blk okX8_trackAt 1 (pc' := 28) (lv' := [(0, .ref B), (1, .int (nI t))]) (st' := [.int (nI t), .ref (B + 2)]) rfl ?_
  refine ph_aaT okX8_trackAt (s := t) rfl hw ht ?_
  exact mi_ret_a okX8_trackAt rfl rfl (Or.inl ⟨_, rfl⟩) ⟨rfl, rfl⟩
set_option maxHeartbeats 4000000 in
set_option maxRecDepth 100000 in
theorem c_clock {X : mi_X} {h : mi_H} {B : Nat} {q : ph_T} {fi le : Nat → Nat → Int32} (hw : ph_W B q fi le h) : mi_S pP X kX8_clock 0 [.ref B] h 0 0 (fun r h1 => r = some (.double q.2.2.2.2.1.2.1) ∧ h1 = h) := by
  refine enX8_clock (Nat.le_of_ble_eq_true rfl) ?_
  refine mi_blk okX8_clock 1 (pc' := 1) (lv' := [(0, .ref B)]) (st' := [.ref B]) rfl ?_
  refine mi_getf okX8_clock rfl fg_RX8_31 (by have := hw.z; omega) (by have := hw.z; omega) hw.ph (v := .ref (B + 26)) rfl ?_
  refine mi_getf okX8_clock rfl fg_RX8_206 (by have := hw.z; omega) (by have := hw.z; omega) hw.dr (v := .double q.2.2.2.2.1.2.1) rfl ?_
  exact mi_ret_d okX8_clock rfl rfl ⟨rfl, rfl⟩
set_option maxHeartbeats 4000000 in
set_option maxRecDepth 100000 in
theorem c_read {X : mi_X} (hX : mi_X23 X) {h : mi_H} {B : Nat} {q : ph_T} {fi le : Nat → Nat → Int32} (hw : ph_W B q fi le h) {k : Nat} (hk : k < 240) (hd : q.2.2.2.2.1.1 < 240) (htray : q.2.2.2.2.1.2.2.2.1 = 0) (hx : dr_okc q.2.2.2.2.1.2.1 q.2.2.2.2.1.1 k) : mi_S pP X kX8_read 5 [.ref B, .int (nI k)] h 0 0 (fun r h1 => r = some (.int (q.2.1 k).2.2.2.1) ∧ h1 = mi_set h (B + 26) (dv_c (hd_b k) (dr_cb q.2.2.2.2.1.2.1 q.2.2.2.2.1.1 k) (q.2.2.2.2.1.2.2.1 + 1) q.2.2.2.2.1.2.2.2.1 q.2.2.2.2.1.2.2.2.2)) := by
  refine enX8_read (Nat.le_of_ble_eq_true rfl) ?_
  refine mi_blk okX8_read 1 (pc' := 1) (lv' := [(0, .ref B), (1, .int (nI k))]) (st' := [.int (nI k)]) rfl ?_
  refine mi_callS okX8_read (mc := 0) (ms := 0) (mc' := 0) (ms' := 0) (As := [.int (nI k)]) (st := []) rfl cs_RX8_188 rfl (by decide) (Nat.le_of_ble_eq_true rfl) (c_checkSector hk) (fun r h1 q => ?_)
  obtain ⟨rfl, e9⟩ := q; have e9 := e9.symm; subst e9
  change mi_W pP X kX8_read 5 0 0 4 [(0, .ref B), (1, .int (nI k))] [] h _
  refine mi_blk okX8_read 1 (pc' := 5) (lv' := [(0, .ref B), (1, .int (nI k))]) (st' := [.ref B]) rfl ?_
  refine mi_getf okX8_read rfl fg_RX8_31 (by have := hw.z; omega) (by have := hw.z; omega) hw.ph (v := .ref (B + 26)) rfl ?_
  refine mi_getf okX8_read rfl fg_RX8_182 (by have := hw.z; omega) (by have := hw.z; omega) hw.dr (v := .int q.2.2.2.2.1.2.2.2.1) rfl ?_
  refine mi_if_eq okX8_read rfl rfl (fun c_11 => ?_) (fun c_11 => absurd htray c_11)
  refine mi_blk okX8_read 1 (pc' := 25) (lv' := [(0, .ref B), (1, .int (nI k))]) (st' := [.ref B]) rfl ?_
  refine mi_getf okX8_read rfl fg_RX8_31 (by have := hw.z; omega) (by have := hw.z; omega) hw.ph (v := .ref (B + 26)) rfl ?_
  refine mi_blk okX8_read 1 (pc' := 29) (lv' := [(0, .ref B), (1, .int (nI k))]) (st' := [.int (nI k), .ref (B + 26)]) rfl ?_
  refine mi_callV okX8_read (mc := 0) (ms := 0) (mc' := 0) (ms' := 0) (b := (B + 26)) (As := [.int (nI k)]) (st := []) rfl cv_RX8_193 rfl (by decide) (by have := hw.z; omega) (by have := hw.z; omega) hw.dr rfl (Nat.le_of_ble_eq_true rfl) (c_passOver hX hd hk (by have := hw.z; omega) (by have := hw.z; omega) hw.dr hx) (fun r h1 q => ?_)
  obtain ⟨rfl, e9⟩ := q; have e9 := e9.symm; subst e9
  change mi_W pP X kX8_read 5 0 0 32 [(0, .ref B), (1, .int (nI k))] [] (mi_set h (B + 26) (dv_c (hd_b k) (dr_cb q.2.2.2.2.1.2.1 q.2.2.2.2.1.1 k) (q.2.2.2.2.1.2.2.1 + 1) q.2.2.2.2.1.2.2.2.1 q.2.2.2.2.1.2.2.2.2)) _
  refine mi_blk okX8_read 1 (pc' := 33) (lv' := [(0, .ref B), (1, .int (nI k))]) (st' := [.ref B]) rfl ?_
  refine mi_getf okX8_read rfl fg_RX8_11 (by have := hw.z; omega) (by have := hw.z; omega) ((mi_set_ne (by omega)).trans hw.ph) (v := .ref (B + 1)) rfl ?_
  refine mi_blk okX8_read 1 (pc' := 37) (lv' := [(0, .ref B), (1, .int (nI k))]) (st' := [.int (nI k), .ref (B + 1)]) rfl ?_
  refine ph_aaS okX8_read (s := k) rfl (hw.set_dr _ _ _ _ _) hk ?_
  refine mi_getf okX8_read rfl fg_RX8_196 (by have := hw.z; omega) (by have := hw.z; omega) ((mi_set_ne (by omega)).trans (hw.se k hk)) (v := .int ((q.2.1 k).2.2.2.1)) rfl ?_
  exact mi_ret_i okX8_read rfl rfl rfl ⟨rfl, rfl⟩
set_option maxHeartbeats 4000000 in
set_option maxRecDepth 100000 in
theorem c_ofSector_1 {X : mi_X} {h : mi_H} {B : Nat} {q : ph_T} {fi le : Nat → Nat → Int32} (hw : ph_W B q fi le h) {k : Nat} (hk : k < 240) : mi_S pP X kX8_ofSector 2 [.ref B, .int (nI k), .int 1] h 0 0 (fun r h1 => r = some (.int (if (q.2.1 k).1 = 0 then 0 else 1)) ∧ h1 = h) := by
  refine enX8_ofSector (Nat.le_of_ble_eq_true rfl) ?_
  refine mi_blk okX8_ofSector 1 (pc' := 1) (lv' := [(0, .ref B), (1, .int (nI k)), (2, .int 1)]) (st' := [.int (nI k)]) rfl ?_
  refine mi_callS okX8_ofSector (mc := 0) (ms := 0) (mc' := 0) (ms' := 0) (As := [.int (nI k)]) (st := []) rfl cs_RX8_188 rfl (by decide) (Nat.le_of_ble_eq_true rfl) (c_checkSector hk) (fun r h1 q => ?_)
  obtain ⟨rfl, e9⟩ := q; have e9 := e9.symm; subst e9
  change mi_W pP X kX8_ofSector 2 0 0 4 [(0, .ref B), (1, .int (nI k)), (2, .int 1)] [] h _
  refine mi_blk okX8_ofSector 1 (pc' := 5) (lv' := [(0, .ref B), (1, .int (nI k)), (2, .int 1)]) (st' := [.ref B]) rfl ?_
  refine mi_getf okX8_ofSector rfl fg_RX8_11 (by have := hw.z; omega) (by have := hw.z; omega) hw.ph (v := .ref (B + 1)) rfl ?_
  refine mi_blk okX8_ofSector 1 (pc' := 9) (lv' := [(0, .ref B), (1, .int (nI k)), (2, .int 1)]) (st' := [.int (nI k), .ref (B + 1)]) rfl ?_
  refine ph_aaS okX8_ofSector (s := k) rfl hw hk ?_
  refine mi_blk okX8_ofSector 2 (pc' := 12) (lv' := [(3, .ref (B + 30 + 2 * k)), (0, .ref B), (1, .int (nI k)), (2, .int 1)]) (st' := [.int 1]) rfl ?_
  refine mi_swin swX8_ofSector_12 (x := 1) (by decide) (by decide) rfl rfl ?_
  refine mi_blk okX8_ofSector 1 (pc' := 71) (lv' := [(3, .ref (B + 30 + 2 * k)), (0, .ref B), (1, .int (nI k)), (2, .int 1)]) (st' := [.ref (B + 30 + 2 * k)]) rfl ?_
  refine mi_getf okX8_ofSector rfl fg_RX8_169 (by have := hw.z; omega) (by have := hw.z; omega) (hw.se k hk) (v := .int ((q.2.1 k).1)) rfl ?_
  refine mi_if_eq okX8_ofSector rfl rfl (fun c_74 => ?_) (fun c_74 => ?_)
  · refine mi_blk okX8_ofSector 1 (pc' := 82) (lv' := [(3, .ref (B + 30 + 2 * k)), (0, .ref B), (1, .int (nI k)), (2, .int 1)]) (st' := [.int 0]) rfl ?_
    exact mi_ret_i okX8_ofSector rfl rfl rfl ⟨by rw [if_pos c_74], rfl⟩
  · refine mi_blk okX8_ofSector 2 (pc' := 82) (lv' := [(3, .ref (B + 30 + 2 * k)), (0, .ref B), (1, .int (nI k)), (2, .int 1)]) (st' := [.int 1]) rfl ?_
    exact mi_ret_i okX8_ofSector rfl rfl rfl ⟨by rw [if_neg c_74], rfl⟩
set_option maxHeartbeats 4000000 in
set_option maxRecDepth 100000 in
theorem c_ofSector_2 {X : mi_X} {h : mi_H} {B : Nat} {q : ph_T} {fi le : Nat → Nat → Int32} (hw : ph_W B q fi le h) {k : Nat} (hk : k < 240) : mi_S pP X kX8_ofSector 2 [.ref B, .int (nI k), .int 2] h 0 0 (fun r h1 => r = some (.int (ib_bc (q.2.2.1 k).2)) ∧ h1 = h) := by
  refine enX8_ofSector (Nat.le_of_ble_eq_true rfl) ?_
  refine mi_blk okX8_ofSector 1 (pc' := 1) (lv' := [(0, .ref B), (1, .int (nI k)), (2, .int 2)]) (st' := [.int (nI k)]) rfl ?_
  refine mi_callS okX8_ofSector (mc := 0) (ms := 0) (mc' := 0) (ms' := 0) (As := [.int (nI k)]) (st := []) rfl cs_RX8_188 rfl (by decide) (Nat.le_of_ble_eq_true rfl) (c_checkSector hk) (fun r h1 q => ?_)
  obtain ⟨rfl, e9⟩ := q; have e9 := e9.symm; subst e9
  change mi_W pP X kX8_ofSector 2 0 0 4 [(0, .ref B), (1, .int (nI k)), (2, .int 2)] [] h _
  refine mi_blk okX8_ofSector 1 (pc' := 5) (lv' := [(0, .ref B), (1, .int (nI k)), (2, .int 2)]) (st' := [.ref B]) rfl ?_
  refine mi_getf okX8_ofSector rfl fg_RX8_11 (by have := hw.z; omega) (by have := hw.z; omega) hw.ph (v := .ref (B + 1)) rfl ?_
  refine mi_blk okX8_ofSector 1 (pc' := 9) (lv' := [(0, .ref B), (1, .int (nI k)), (2, .int 2)]) (st' := [.int (nI k), .ref (B + 1)]) rfl ?_
  refine ph_aaS okX8_ofSector (s := k) rfl hw hk ?_
  refine mi_blk okX8_ofSector 2 (pc' := 12) (lv' := [(3, .ref (B + 30 + 2 * k)), (0, .ref B), (1, .int (nI k)), (2, .int 2)]) (st' := [.int 2]) rfl ?_
  refine mi_swin swX8_ofSector_12 (x := 2) (by decide) (by decide) rfl rfl ?_
  refine mi_blk okX8_ofSector 1 (pc' := 84) (lv' := [(3, .ref (B + 30 + 2 * k)), (0, .ref B), (1, .int (nI k)), (2, .int 2)]) (st' := [.ref (B + 30 + 2 * k)]) rfl ?_
  refine mi_getf okX8_ofSector rfl fg_RX8_210 (by have := hw.z; omega) (by have := hw.z; omega) (hw.se k hk) (v := .ref (B + 31 + 2 * k)) rfl ?_
  refine mi_getf okX8_ofSector rfl fg_RX8_214 (by have := hw.z; omega) (by have := hw.z; omega) (hw.bl k hk) (v := .int ((q.2.2.1 k).2)) rfl ?_
  refine mi_callS okX8_ofSector (mc := 0) (ms := 0) (mc' := 0) (ms' := 0) (As := [.int ((q.2.2.1 k).2)]) (st := []) rfl cs_RX8_219 rfl (by decide) (Nat.le_of_ble_eq_true rfl) c_bitCount (fun r h1 q => ?_)
  obtain ⟨rfl, e9⟩ := q; have e9 := e9.symm; subst e9
  change mi_W pP X kX8_ofSector 2 0 0 93 [(3, .ref (B + 30 + 2 * k)), (0, .ref B), (1, .int (nI k)), (2, .int 2)] [.int (ib_bc ((q.2.2.1 k).2))] h _
  exact mi_ret_i okX8_ofSector rfl rfl rfl ⟨rfl, rfl⟩
set_option maxHeartbeats 4000000 in
set_option maxRecDepth 100000 in
theorem c_ofSector_3 {X : mi_X} {h : mi_H} {B : Nat} {q : ph_T} {fi le : Nat → Nat → Int32} (hw : ph_W B q fi le h) {k : Nat} (hk : k < 240) : mi_S pP X kX8_ofSector 2 [.ref B, .int (nI k), .int 3] h 0 0 (fun r h1 => r = some (.int (q.2.1 k).2.2.2.1) ∧ h1 = h) := by
  refine enX8_ofSector (Nat.le_of_ble_eq_true rfl) ?_
  refine mi_blk okX8_ofSector 1 (pc' := 1) (lv' := [(0, .ref B), (1, .int (nI k)), (2, .int 3)]) (st' := [.int (nI k)]) rfl ?_
  refine mi_callS okX8_ofSector (mc := 0) (ms := 0) (mc' := 0) (ms' := 0) (As := [.int (nI k)]) (st := []) rfl cs_RX8_188 rfl (by decide) (Nat.le_of_ble_eq_true rfl) (c_checkSector hk) (fun r h1 q => ?_)
  obtain ⟨rfl, e9⟩ := q; have e9 := e9.symm; subst e9
  change mi_W pP X kX8_ofSector 2 0 0 4 [(0, .ref B), (1, .int (nI k)), (2, .int 3)] [] h _
  refine mi_blk okX8_ofSector 1 (pc' := 5) (lv' := [(0, .ref B), (1, .int (nI k)), (2, .int 3)]) (st' := [.ref B]) rfl ?_
  refine mi_getf okX8_ofSector rfl fg_RX8_11 (by have := hw.z; omega) (by have := hw.z; omega) hw.ph (v := .ref (B + 1)) rfl ?_
  refine mi_blk okX8_ofSector 1 (pc' := 9) (lv' := [(0, .ref B), (1, .int (nI k)), (2, .int 3)]) (st' := [.int (nI k), .ref (B + 1)]) rfl ?_
  refine ph_aaS okX8_ofSector (s := k) rfl hw hk ?_
  refine mi_blk okX8_ofSector 2 (pc' := 12) (lv' := [(3, .ref (B + 30 + 2 * k)), (0, .ref B), (1, .int (nI k)), (2, .int 3)]) (st' := [.int 3]) rfl ?_
  refine mi_swin swX8_ofSector_12 (x := 3) (by decide) (by decide) rfl rfl ?_
  refine mi_blk okX8_ofSector 1 (pc' := 95) (lv' := [(3, .ref (B + 30 + 2 * k)), (0, .ref B), (1, .int (nI k)), (2, .int 3)]) (st' := [.ref (B + 30 + 2 * k)]) rfl ?_
  refine mi_getf okX8_ofSector rfl fg_RX8_196 (by have := hw.z; omega) (by have := hw.z; omega) (hw.se k hk) (v := .int ((q.2.1 k).2.2.2.1)) rfl ?_
  exact mi_ret_i okX8_ofSector rfl rfl rfl ⟨rfl, rfl⟩
set_option maxHeartbeats 4000000 in
set_option maxRecDepth 100000 in
theorem c_ofSector_4 {X : mi_X} {h : mi_H} {B : Nat} {q : ph_T} {fi le : Nat → Nat → Int32} (hw : ph_W B q fi le h) {k : Nat} (hk : k < 240) : mi_S pP X kX8_ofSector 2 [.ref B, .int (nI k), .int 4] h 0 0 (fun r h1 => r = some (.int (q.2.1 k).2.2.2.2.2.1) ∧ h1 = h) := by
  refine enX8_ofSector (Nat.le_of_ble_eq_true rfl) ?_
  refine mi_blk okX8_ofSector 1 (pc' := 1) (lv' := [(0, .ref B), (1, .int (nI k)), (2, .int 4)]) (st' := [.int (nI k)]) rfl ?_
  refine mi_callS okX8_ofSector (mc := 0) (ms := 0) (mc' := 0) (ms' := 0) (As := [.int (nI k)]) (st := []) rfl cs_RX8_188 rfl (by decide) (Nat.le_of_ble_eq_true rfl) (c_checkSector hk) (fun r h1 q => ?_)
  obtain ⟨rfl, e9⟩ := q; have e9 := e9.symm; subst e9
  change mi_W pP X kX8_ofSector 2 0 0 4 [(0, .ref B), (1, .int (nI k)), (2, .int 4)] [] h _
  refine mi_blk okX8_ofSector 1 (pc' := 5) (lv' := [(0, .ref B), (1, .int (nI k)), (2, .int 4)]) (st' := [.ref B]) rfl ?_
  refine mi_getf okX8_ofSector rfl fg_RX8_11 (by have := hw.z; omega) (by have := hw.z; omega) hw.ph (v := .ref (B + 1)) rfl ?_
  refine mi_blk okX8_ofSector 1 (pc' := 9) (lv' := [(0, .ref B), (1, .int (nI k)), (2, .int 4)]) (st' := [.int (nI k), .ref (B + 1)]) rfl ?_
  refine ph_aaS okX8_ofSector (s := k) rfl hw hk ?_
  refine mi_blk okX8_ofSector 2 (pc' := 12) (lv' := [(3, .ref (B + 30 + 2 * k)), (0, .ref B), (1, .int (nI k)), (2, .int 4)]) (st' := [.int 4]) rfl ?_
  refine mi_swin swX8_ofSector_12 (x := 4) (by decide) (by decide) rfl rfl ?_
  refine mi_blk okX8_ofSector 1 (pc' := 100) (lv' := [(3, .ref (B + 30 + 2 * k)), (0, .ref B), (1, .int (nI k)), (2, .int 4)]) (st' := [.ref (B + 30 + 2 * k)]) rfl ?_
  refine mi_getf okX8_ofSector rfl fg_RX8_224 (by have := hw.z; omega) (by have := hw.z; omega) (hw.se k hk) (v := .int ((q.2.1 k).2.2.2.2.2.1)) rfl ?_
  exact mi_ret_i okX8_ofSector rfl rfl rfl ⟨rfl, rfl⟩
set_option maxHeartbeats 4000000 in
set_option maxRecDepth 100000 in
theorem c_ofSector_5 {X : mi_X} {h : mi_H} {B : Nat} {q : ph_T} {fi le : Nat → Nat → Int32} (hw : ph_W B q fi le h) {k : Nat} (hk : k < 240) : mi_S pP X kX8_ofSector 2 [.ref B, .int (nI k), .int 5] h 0 0 (fun r h1 => r = some (.int (q.2.1 k).2.2.2.2.2.2.1) ∧ h1 = h) := by
  refine enX8_ofSector (Nat.le_of_ble_eq_true rfl) ?_
  refine mi_blk okX8_ofSector 1 (pc' := 1) (lv' := [(0, .ref B), (1, .int (nI k)), (2, .int 5)]) (st' := [.int (nI k)]) rfl ?_
  refine mi_callS okX8_ofSector (mc := 0) (ms := 0) (mc' := 0) (ms' := 0) (As := [.int (nI k)]) (st := []) rfl cs_RX8_188 rfl (by decide) (Nat.le_of_ble_eq_true rfl) (c_checkSector hk) (fun r h1 q => ?_)
  obtain ⟨rfl, e9⟩ := q; have e9 := e9.symm; subst e9
  change mi_W pP X kX8_ofSector 2 0 0 4 [(0, .ref B), (1, .int (nI k)), (2, .int 5)] [] h _
  refine mi_blk okX8_ofSector 1 (pc' := 5) (lv' := [(0, .ref B), (1, .int (nI k)), (2, .int 5)]) (st' := [.ref B]) rfl ?_
  refine mi_getf okX8_ofSector rfl fg_RX8_11 (by have := hw.z; omega) (by have := hw.z; omega) hw.ph (v := .ref (B + 1)) rfl ?_
  refine mi_blk okX8_ofSector 1 (pc' := 9) (lv' := [(0, .ref B), (1, .int (nI k)), (2, .int 5)]) (st' := [.int (nI k), .ref (B + 1)]) rfl ?_
  refine ph_aaS okX8_ofSector (s := k) rfl hw hk ?_
  refine mi_blk okX8_ofSector 2 (pc' := 12) (lv' := [(3, .ref (B + 30 + 2 * k)), (0, .ref B), (1, .int (nI k)), (2, .int 5)]) (st' := [.int 5]) rfl ?_
  refine mi_swin swX8_ofSector_12 (x := 5) (by decide) (by decide) rfl rfl ?_
  refine mi_blk okX8_ofSector 1 (pc' := 105) (lv' := [(3, .ref (B + 30 + 2 * k)), (0, .ref B), (1, .int (nI k)), (2, .int 5)]) (st' := [.ref (B + 30 + 2 * k)]) rfl ?_
  refine mi_getf okX8_ofSector rfl fg_RX8_227 (by have := hw.z; omega) (by have := hw.z; omega) (hw.se k hk) (v := .int ((q.2.1 k).2.2.2.2.2.2.1)) rfl ?_
  exact mi_ret_i okX8_ofSector rfl rfl rfl ⟨rfl, rfl⟩
set_option maxHeartbeats 4000000 in
set_option maxRecDepth 100000 in
theorem c_ofSector_6 {X : mi_X} {h : mi_H} {B : Nat} {q : ph_T} {fi le : Nat → Nat → Int32} (hw : ph_W B q fi le h) {k : Nat} (hk : k < 240) : mi_S pP X kX8_ofSector 2 [.ref B, .int (nI k), .int 6] h 0 0 (fun r h1 => r = some (.int (q.2.1 k).2.2.2.2.2.2.2) ∧ h1 = h) := by
  refine enX8_ofSector (Nat.le_of_ble_eq_true rfl) ?_
  refine mi_blk okX8_ofSector 1 (pc' := 1) (lv' := [(0, .ref B), (1, .int (nI k)), (2, .int 6)]) (st' := [.int (nI k)]) rfl ?_
  refine mi_callS okX8_ofSector (mc := 0) (ms := 0) (mc' := 0) (ms' := 0) (As := [.int (nI k)]) (st := []) rfl cs_RX8_188 rfl (by decide) (Nat.le_of_ble_eq_true rfl) (c_checkSector hk) (fun r h1 q => ?_)
  obtain ⟨rfl, e9⟩ := q; have e9 := e9.symm; subst e9
  change mi_W pP X kX8_ofSector 2 0 0 4 [(0, .ref B), (1, .int (nI k)), (2, .int 6)] [] h _
  refine mi_blk okX8_ofSector 1 (pc' := 5) (lv' := [(0, .ref B), (1, .int (nI k)), (2, .int 6)]) (st' := [.ref B]) rfl ?_
  refine mi_getf okX8_ofSector rfl fg_RX8_11 (by have := hw.z; omega) (by have := hw.z; omega) hw.ph (v := .ref (B + 1)) rfl ?_
  refine mi_blk okX8_ofSector 1 (pc' := 9) (lv' := [(0, .ref B), (1, .int (nI k)), (2, .int 6)]) (st' := [.int (nI k), .ref (B + 1)]) rfl ?_
  refine ph_aaS okX8_ofSector (s := k) rfl hw hk ?_
  refine mi_blk okX8_ofSector 2 (pc' := 12) (lv' := [(3, .ref (B + 30 + 2 * k)), (0, .ref B), (1, .int (nI k)), (2, .int 6)]) (st' := [.int 6]) rfl ?_
  refine mi_swin swX8_ofSector_12 (x := 6) (by decide) (by decide) rfl rfl ?_
  refine mi_blk okX8_ofSector 1 (pc' := 110) (lv' := [(3, .ref (B + 30 + 2 * k)), (0, .ref B), (1, .int (nI k)), (2, .int 6)]) (st' := [.ref (B + 30 + 2 * k)]) rfl ?_
  refine mi_getf okX8_ofSector rfl fg_RX8_230 (by have := hw.z; omega) (by have := hw.z; omega) (hw.se k hk) (v := .int ((q.2.1 k).2.2.2.2.2.2.2)) rfl ?_
  exact mi_ret_i okX8_ofSector rfl rfl rfl ⟨rfl, rfl⟩
set_option maxHeartbeats 4000000 in
set_option maxRecDepth 100000 in
theorem c_nibbles_1 {X : mi_X} {h : mi_H} {B : Nat} {q : ph_T} {fi le : Nat → Nat → Int32} (hw : ph_W B q fi le h) {k : Nat} (hk : k < 240) : mi_S pP X kX8_nibbles 2 [.ref B, .int (nI k), .int 1] h 0 0 (fun r h1 => r = some (.long (q.2.1 k).2.2.2.2.1) ∧ h1 = h) := by
  refine enX8_nibbles (Nat.le_of_ble_eq_true rfl) ?_
  refine mi_blk okX8_nibbles 1 (pc' := 1) (lv' := [(0, .ref B), (1, .int (nI k)), (2, .int 1)]) (st' := [.int (nI k)]) rfl ?_
  refine mi_callS okX8_nibbles (mc := 0) (ms := 0) (mc' := 0) (ms' := 0) (As := [.int (nI k)]) (st := []) rfl cs_RX8_188 rfl (by decide) (Nat.le_of_ble_eq_true rfl) (c_checkSector hk) (fun r h1 q => ?_)
  obtain ⟨rfl, e9⟩ := q; have e9 := e9.symm; subst e9
  change mi_W pP X kX8_nibbles 2 0 0 4 [(0, .ref B), (1, .int (nI k)), (2, .int 1)] [] h _
  refine mi_blk okX8_nibbles 1 (pc' := 5) (lv' := [(0, .ref B), (1, .int (nI k)), (2, .int 1)]) (st' := [.int 1]) rfl ?_
  refine mi_if_eq okX8_nibbles rfl rfl (fun c_5 => absurd c_5 (by decide)) (fun c_5 => ?_)
  refine mi_blk okX8_nibbles 1 (pc' := 9) (lv' := [(0, .ref B), (1, .int (nI k)), (2, .int 1)]) (st' := [.ref B]) rfl ?_
  refine mi_getf okX8_nibbles rfl fg_RX8_11 (by have := hw.z; omega) (by have := hw.z; omega) hw.ph (v := .ref (B + 1)) rfl ?_
  refine mi_blk okX8_nibbles 1 (pc' := 13) (lv' := [(0, .ref B), (1, .int (nI k)), (2, .int 1)]) (st' := [.int (nI k), .ref (B + 1)]) rfl ?_
  refine ph_aaS okX8_nibbles (s := k) rfl hw hk ?_
  refine mi_getf okX8_nibbles rfl fg_RX8_238 (by have := hw.z; omega) (by have := hw.z; omega) (hw.se k hk) (v := .long ((q.2.1 k).2.2.2.2.1)) rfl ?_
  refine mi_blk okX8_nibbles 1 (pc' := 29) (lv' := [(0, .ref B), (1, .int (nI k)), (2, .int 1)]) (st' := [.long ((q.2.1 k).2.2.2.2.1)]) rfl ?_
  exact mi_ret_l okX8_nibbles rfl rfl ⟨rfl, rfl⟩
