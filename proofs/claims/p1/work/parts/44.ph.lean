set_option maxHeartbeats 4000000 in
set_option maxRecDepth 100000 in
theorem c_isSector {X : mi_X} {h : mi_H} {k : Nat} (hk : k < 240) : mi_S pP X kX8_isSector 0 [.int (nI k)] h 0 0 (fun r h1 => r = some (.int 1) ∧ h1 = h) := by
  refine enX8_isSector (Nat.le_of_ble_eq_true rfl) ?_
  refine mi_blk okX8_isSector 1 (pc' := 1) (lv' := [(0, .int (nI k))]) (st' := [.int (nI k)]) rfl ?_
  refine mi_if_lt okX8_isSector rfl rfl (fun c_1 => absurd c_1 (nI_pos (by omega))) (fun c_1 => ?_)
  refine mi_blk okX8_isSector 2 (pc' := 8) (lv' := [(0, .int (nI k))]) (st' := [.int 240, .int (nI k)]) rfl ?_
  refine mi_ic_ge okX8_isSector rfl rfl (fun c_8 => absurd c_8 (nI_ge (a := k) (b := 240) (by omega) (by decide))) (fun c_8 => ?_)
  refine mi_blk okX8_isSector 2 (pc' := 16) (lv' := [(0, .int (nI k))]) (st' := [.int 1]) rfl ?_
  exact mi_ret_i okX8_isSector rfl rfl rfl ⟨rfl, rfl⟩
set_option maxHeartbeats 4000000 in
set_option maxRecDepth 100000 in
theorem c_checkSector {X : mi_X} {h : mi_H} {k : Nat} (hk : k < 240) : mi_S pP X kX8_checkSector 1 [.int (nI k)] h 0 0 (fun r h1 => r = none ∧ h1 = h) := by
  refine enX8_checkSector (Nat.le_of_ble_eq_true rfl) ?_
  refine mi_blk okX8_checkSector 1 (pc' := 1) (lv' := [(0, .int (nI k))]) (st' := [.int (nI k)]) rfl ?_
  refine mi_callS okX8_checkSector (mc := 0) (ms := 0) (mc' := 0) (ms' := 0) (As := [.int (nI k)]) (st := []) rfl cs_RX8_136 rfl (by decide) (Nat.le_of_ble_eq_true rfl) (c_isSector hk) (fun r h1 q => ?_)
  obtain ⟨rfl, e9⟩ := q; have e9 := e9.symm; subst e9
  change mi_W pP X kX8_checkSector 1 0 0 4 [(0, .int (nI k))] [.int 1] h _
  refine mi_if_ne okX8_checkSector rfl rfl (fun c_4 => ?_) (fun c_4 => absurd c_4 (by decide))
  exact mi_ret_v okX8_checkSector rfl rfl ⟨rfl, rfl⟩
set_option maxHeartbeats 4000000 in
set_option maxRecDepth 100000 in
theorem c_left {X : mi_X} {h : mi_H} {B : Nat} {q : ph_T} {fi le : Nat → Nat → Int32} (hw : ph_W B q fi le h) : mi_S pP X kX8_left 0 [.ref B] h 0 0 (fun r h1 => r = some (.int (240 - q.1.2.2.1)) ∧ h1 = h) := by
  refine enX8_left (Nat.le_of_ble_eq_true rfl) ?_
  refine mi_blk okX8_left 2 (pc' := 4) (lv' := [(0, .ref B)]) (st' := [.ref B, .int 240]) rfl ?_
  refine mi_getf okX8_left rfl fg_RX8_49 (show 6 ≤ _ by have := hw.z; omega) (show _ < h.1 by have := hw.z; omega) hw.ph (v := .int q.1.2.2.1) rfl ?_
  refine mi_blk okX8_left 1 (pc' := 8) (lv' := [(0, .ref B)]) (st' := [.int (240 - q.1.2.2.1)]) rfl ?_
  exact mi_ret_i okX8_left rfl rfl rfl ⟨rfl, rfl⟩
set_option maxHeartbeats 4000000 in
set_option maxRecDepth 100000 in
theorem c_trackAt {X : mi_X} {h : mi_H} {B : Nat} {q : ph_T} {fi le : Nat → Nat → Int32} (hw : ph_W B q fi le h) {t : Nat} (ht : t < 8) (htc : nI t < q.1.2.1) : mi_S pP X kX8_trackAt 0 [.ref B, .int (nI t)] h 0 0 (fun r h1 => r = some (.ref (B + 510 + t)) ∧ h1 = h) := by
  refine enX8_trackAt (Nat.le_of_ble_eq_true rfl) ?_
  refine mi_blk okX8_trackAt 1 (pc' := 1) (lv' := [(0, .ref B), (1, .int (nI t))]) (st' := [.int (nI t)]) rfl ?_
  refine mi_if_lt okX8_trackAt rfl rfl (fun c_1 => absurd c_1 (nI_pos (by omega))) (fun c_1 => ?_)
  refine mi_blk okX8_trackAt 2 (pc' := 6) (lv' := [(0, .ref B), (1, .int (nI t))]) (st' := [.ref B, .int (nI t)]) rfl ?_
  refine mi_getf okX8_trackAt rfl fg_RX8_46 (show 6 ≤ _ by have := hw.z; omega) (show _ < h.1 by have := hw.z; omega) hw.ph (v := .int q.1.2.1) rfl ?_
  refine mi_ic_lt okX8_trackAt rfl rfl (fun c_9 => ?_) (fun c_9 => absurd htc c_9)
  refine mi_blk okX8_trackAt 1 (pc' := 24) (lv' := [(0, .ref B), (1, .int (nI t))]) (st' := [.ref B]) rfl ?_
  refine mi_getf okX8_trackAt rfl fg_RX8_17 (show 6 ≤ _ by have := hw.z; omega) (show _ < h.1 by have := hw.z; omega) hw.ph (v := .ref (B + 2)) rfl ?_
  refine mi_blk okX8_trackAt 1 (pc' := 28) (lv' := [(0, .ref B), (1, .int (nI t))]) (st' := [.int (nI t), .ref (B + 2)]) rfl ?_
  refine ph_aaT okX8_trackAt (s := t) rfl hw ht ?_
  exact mi_ret_a okX8_trackAt rfl rfl (Or.inl ⟨_, rfl⟩) ⟨rfl, rfl⟩
set_option maxHeartbeats 4000000 in
set_option maxRecDepth 100000 in
theorem c_clock {X : mi_X} {h : mi_H} {B : Nat} {q : ph_T} {fi le : Nat → Nat → Int32} (hw : ph_W B q fi le h) : mi_S pP X kX8_clock 0 [.ref B] h 0 0 (fun r h1 => r = some (.double q.2.2.2.2.1.2.1) ∧ h1 = h) := by
  refine enX8_clock (Nat.le_of_ble_eq_true rfl) ?_
  refine mi_blk okX8_clock 1 (pc' := 1) (lv' := [(0, .ref B)]) (st' := [.ref B]) rfl ?_
  refine mi_getf okX8_clock rfl fg_RX8_31 (show 6 ≤ _ by have := hw.z; omega) (show _ < h.1 by have := hw.z; omega) hw.ph (v := .ref (B + 26)) rfl ?_
  refine mi_getf okX8_clock rfl fg_RX8_206 (show 6 ≤ _ by have := hw.z; omega) (show _ < h.1 by have := hw.z; omega) hw.dr (v := .double q.2.2.2.2.1.2.1) rfl ?_
  exact mi_ret_d okX8_clock rfl rfl ⟨rfl, rfl⟩
set_option maxHeartbeats 4000000 in
set_option maxRecDepth 100000 in
theorem c_read {X : mi_X} (hX : mi_X23 X) {h : mi_H} {B : Nat} {q : ph_T} {fi le : Nat → Nat → Int32} (hw : ph_W B q fi le h) {k : Nat} (hk : k < 240) (hd : q.2.2.2.2.1.1 < 240) (htray : q.2.2.2.2.1.2.2.2.1 = 0) (hx : dr_okc q.2.2.2.2.1.2.1 q.2.2.2.2.1.1 k) : mi_S pP X kX8_read 5 [.ref B, .int (nI k)] h 0 0 (fun r h1 => r = some (.int (q.2.1 k).2.2.2.1) ∧ h1 = mi_set h (B + 26) (dv_c (hd_b k) (dr_cb q.2.2.2.2.1.2.1 q.2.2.2.2.1.1 k) (q.2.2.2.2.1.2.2.1 + 1) q.2.2.2.2.1.2.2.2.1 q.2.2.2.2.1.2.2.2.2)) := by
  refine enX8_read (Nat.le_of_ble_eq_true rfl) ?_
  refine mi_blk okX8_read 1 (pc' := 1) (lv' := [(0, .ref B), (1, .int (nI k))]) (st' := [.int (nI k)]) rfl ?_
  refine mi_callS okX8_read (mc := 0) (ms := 0) (mc' := 0) (ms' := 0) (As := [.int (nI k)]) (st := []) rfl cs_RX8_188 rfl (by decide) (Nat.le_of_ble_eq_true rfl) (c_checkSector hk) (fun r h1 q => ?_)
  obtain ⟨rfl, e9⟩ := q; have e9 := e9.symm; subst e9
  change mi_W pP X kX8_read 5 0 0 4 [(0, .ref B), (1, .int (nI k))] [] h _
  refine mi_blk okX8_read 1 (pc' := 5) (lv' := [(0, .ref B), (1, .int (nI k))]) (st' := [.ref B]) rfl ?_
  refine mi_getf okX8_read rfl fg_RX8_31 (show 6 ≤ _ by have := hw.z; omega) (show _ < h.1 by have := hw.z; omega) hw.ph (v := .ref (B + 26)) rfl ?_
  refine mi_getf okX8_read rfl fg_RX8_182 (show 6 ≤ _ by have := hw.z; omega) (show _ < h.1 by have := hw.z; omega) hw.dr (v := .int q.2.2.2.2.1.2.2.2.1) rfl ?_
  refine mi_if_eq okX8_read rfl rfl (fun c_11 => ?_) (fun c_11 => absurd htray c_11)
  refine mi_blk okX8_read 1 (pc' := 25) (lv' := [(0, .ref B), (1, .int (nI k))]) (st' := [.ref B]) rfl ?_
  refine mi_getf okX8_read rfl fg_RX8_31 (show 6 ≤ _ by have := hw.z; omega) (show _ < h.1 by have := hw.z; omega) hw.ph (v := .ref (B + 26)) rfl ?_
  refine mi_blk okX8_read 1 (pc' := 29) (lv' := [(0, .ref B), (1, .int (nI k))]) (st' := [.int (nI k), .ref (B + 26)]) rfl ?_
  refine mi_callV okX8_read (mc := 0) (ms := 0) (mc' := 0) (ms' := 0) (b := (B + 26)) (As := [.int (nI k)]) (st := []) rfl cv_RX8_193 rfl (by decide) (show 6 ≤ _ by have := hw.z; omega) (show _ < h.1 by have := hw.z; omega) hw.dr rfl (Nat.le_of_ble_eq_true rfl) (c_passOver hX hd hk (show 6 ≤ _ by have := hw.z; omega) (show _ < h.1 by have := hw.z; omega) hw.dr hx) (fun r h1 q => ?_)
  obtain ⟨rfl, e9⟩ := q; have e9 := e9.symm; subst e9
  change mi_W pP X kX8_read 5 0 0 32 [(0, .ref B), (1, .int (nI k))] [] (mi_set h (B + 26) (dv_c (hd_b k) (dr_cb q.2.2.2.2.1.2.1 q.2.2.2.2.1.1 k) (q.2.2.2.2.1.2.2.1 + 1) q.2.2.2.2.1.2.2.2.1 q.2.2.2.2.1.2.2.2.2)) _
  refine mi_blk okX8_read 1 (pc' := 33) (lv' := [(0, .ref B), (1, .int (nI k))]) (st' := [.ref B]) rfl ?_
  refine mi_getf okX8_read rfl fg_RX8_11 (show 6 ≤ _ by have := hw.z; omega) (show _ < h.1 by have := hw.z; omega) ((mi_set_ne (by omega)).trans hw.ph) (v := .ref (B + 1)) rfl ?_
  refine mi_blk okX8_read 1 (pc' := 37) (lv' := [(0, .ref B), (1, .int (nI k))]) (st' := [.int (nI k), .ref (B + 1)]) rfl ?_
  refine ph_aaS okX8_read (s := k) rfl (hw.set_dr _ _ _ _ _) hk ?_
  refine mi_getf okX8_read rfl fg_RX8_196 (show 6 ≤ _ by have := hw.z; omega) (show _ < h.1 by have := hw.z; omega) ((mi_set_ne (by omega)).trans (hw.se k hk)) (v := .int ((q.2.1 k).2.2.2.1)) rfl ?_
  exact mi_ret_i okX8_read rfl rfl rfl ⟨rfl, rfl⟩
set_option maxHeartbeats 4000000 in
set_option maxRecDepth 100000 in
theorem c_ofSector_1 {X : mi_X} {h : mi_H} {B : Nat} {q : ph_T} {fi le : Nat → Nat → Int32} (hw : ph_W B q fi le h) {k : Nat} (hk : k < 240) : mi_S pP X kX8_ofSector 3 [.ref B, .int (nI k), .int 1] h 0 0 (fun r h1 => r = some (.int (if (q.2.1 k).1 = 0 then 0 else 1)) ∧ h1 = h) := by
  refine enX8_ofSector (Nat.le_of_ble_eq_true rfl) ?_
  refine mi_blk okX8_ofSector 1 (pc' := 1) (lv' := [(0, .ref B), (1, .int (nI k)), (2, .int 1)]) (st' := [.int (nI k)]) rfl ?_
  refine mi_callS okX8_ofSector (mc := 0) (ms := 0) (mc' := 0) (ms' := 0) (As := [.int (nI k)]) (st := []) rfl cs_RX8_188 rfl (by decide) (Nat.le_of_ble_eq_true rfl) (c_checkSector hk) (fun r h1 q => ?_)
  obtain ⟨rfl, e9⟩ := q; have e9 := e9.symm; subst e9
  change mi_W pP X kX8_ofSector 3 0 0 4 [(0, .ref B), (1, .int (nI k)), (2, .int 1)] [] h _
  refine mi_blk okX8_ofSector 1 (pc' := 5) (lv' := [(0, .ref B), (1, .int (nI k)), (2, .int 1)]) (st' := [.ref B]) rfl ?_
  refine mi_getf okX8_ofSector rfl fg_RX8_11 (show 6 ≤ _ by have := hw.z; omega) (show _ < h.1 by have := hw.z; omega) hw.ph (v := .ref (B + 1)) rfl ?_
  refine mi_blk okX8_ofSector 1 (pc' := 9) (lv' := [(0, .ref B), (1, .int (nI k)), (2, .int 1)]) (st' := [.int (nI k), .ref (B + 1)]) rfl ?_
  refine ph_aaS okX8_ofSector (s := k) rfl hw hk ?_
  refine mi_blk okX8_ofSector 2 (pc' := 12) (lv' := [(3, .ref (B + 30 + 2 * k)), (0, .ref B), (1, .int (nI k)), (2, .int 1)]) (st' := [.int 1]) rfl ?_
  refine mi_swin swX8_ofSector_12 (x := 1) (by decide) (by decide) rfl rfl ?_
  refine mi_blk okX8_ofSector 1 (pc' := 71) (lv' := [(3, .ref (B + 30 + 2 * k)), (0, .ref B), (1, .int (nI k)), (2, .int 1)]) (st' := [.ref (B + 30 + 2 * k)]) rfl ?_
  refine mi_getf okX8_ofSector rfl fg_RX8_169 (show 6 ≤ _ by have := hw.z; omega) (show _ < h.1 by have := hw.z; omega) (hw.se k hk) (v := .int ((q.2.1 k).1)) rfl ?_
  refine mi_if_eq okX8_ofSector rfl rfl (fun c_74 => ?_) (fun c_74 => ?_)
  · refine mi_blk okX8_ofSector 1 (pc' := 82) (lv' := [(3, .ref (B + 30 + 2 * k)), (0, .ref B), (1, .int (nI k)), (2, .int 1)]) (st' := [.int 0]) rfl ?_
    exact mi_ret_i okX8_ofSector rfl rfl rfl ⟨by rw [if_pos c_74], rfl⟩
  · refine mi_blk okX8_ofSector 2 (pc' := 82) (lv' := [(3, .ref (B + 30 + 2 * k)), (0, .ref B), (1, .int (nI k)), (2, .int 1)]) (st' := [.int 1]) rfl ?_
    exact mi_ret_i okX8_ofSector rfl rfl rfl ⟨by rw [if_neg c_74], rfl⟩
set_option maxHeartbeats 4000000 in
set_option maxRecDepth 100000 in
theorem c_ofSector_2 {X : mi_X} {h : mi_H} {B : Nat} {q : ph_T} {fi le : Nat → Nat → Int32} (hw : ph_W B q fi le h) {k : Nat} (hk : k < 240) : mi_S pP X kX8_ofSector 3 [.ref B, .int (nI k), .int 2] h 0 0 (fun r h1 => r = some (.int (ib_bc (q.2.2.1 k).2)) ∧ h1 = h) := by
  refine enX8_ofSector (Nat.le_of_ble_eq_true rfl) ?_
  refine mi_blk okX8_ofSector 1 (pc' := 1) (lv' := [(0, .ref B), (1, .int (nI k)), (2, .int 2)]) (st' := [.int (nI k)]) rfl ?_
  refine mi_callS okX8_ofSector (mc := 0) (ms := 0) (mc' := 0) (ms' := 0) (As := [.int (nI k)]) (st := []) rfl cs_RX8_188 rfl (by decide) (Nat.le_of_ble_eq_true rfl) (c_checkSector hk) (fun r h1 q => ?_)
  obtain ⟨rfl, e9⟩ := q; have e9 := e9.symm; subst e9
  change mi_W pP X kX8_ofSector 3 0 0 4 [(0, .ref B), (1, .int (nI k)), (2, .int 2)] [] h _
  refine mi_blk okX8_ofSector 1 (pc' := 5) (lv' := [(0, .ref B), (1, .int (nI k)), (2, .int 2)]) (st' := [.ref B]) rfl ?_
  refine mi_getf okX8_ofSector rfl fg_RX8_11 (show 6 ≤ _ by have := hw.z; omega) (show _ < h.1 by have := hw.z; omega) hw.ph (v := .ref (B + 1)) rfl ?_
  refine mi_blk okX8_ofSector 1 (pc' := 9) (lv' := [(0, .ref B), (1, .int (nI k)), (2, .int 2)]) (st' := [.int (nI k), .ref (B + 1)]) rfl ?_
  refine ph_aaS okX8_ofSector (s := k) rfl hw hk ?_
  refine mi_blk okX8_ofSector 2 (pc' := 12) (lv' := [(3, .ref (B + 30 + 2 * k)), (0, .ref B), (1, .int (nI k)), (2, .int 2)]) (st' := [.int 2]) rfl ?_
  refine mi_swin swX8_ofSector_12 (x := 2) (by decide) (by decide) rfl rfl ?_
  refine mi_blk okX8_ofSector 1 (pc' := 84) (lv' := [(3, .ref (B + 30 + 2 * k)), (0, .ref B), (1, .int (nI k)), (2, .int 2)]) (st' := [.ref (B + 30 + 2 * k)]) rfl ?_
  refine mi_getf okX8_ofSector rfl fg_RX8_210 (show 6 ≤ _ by have := hw.z; omega) (show _ < h.1 by have := hw.z; omega) (hw.se k hk) (v := .ref (B + 31 + 2 * k)) rfl ?_
  refine mi_getf okX8_ofSector rfl fg_RX8_214 (show 6 ≤ _ by have := hw.z; omega) (show _ < h.1 by have := hw.z; omega) (hw.bl k hk) (v := .int ((q.2.2.1 k).2)) rfl ?_
  refine mi_callS okX8_ofSector (mc := 0) (ms := 0) (mc' := 0) (ms' := 0) (As := [.int ((q.2.2.1 k).2)]) (st := []) rfl cs_RX8_219 rfl (by decide) (Nat.le_of_ble_eq_true rfl) c_bitCount (fun r h1 q => ?_)
  obtain ⟨rfl, e9⟩ := q; have e9 := e9.symm; subst e9
  change mi_W pP X kX8_ofSector 3 0 0 93 [(3, .ref (B + 30 + 2 * k)), (0, .ref B), (1, .int (nI k)), (2, .int 2)] [.int (ib_bc ((q.2.2.1 k).2))] h _
  exact mi_ret_i okX8_ofSector rfl rfl rfl ⟨rfl, rfl⟩
set_option maxHeartbeats 4000000 in
set_option maxRecDepth 100000 in
theorem c_ofSector_3 {X : mi_X} {h : mi_H} {B : Nat} {q : ph_T} {fi le : Nat → Nat → Int32} (hw : ph_W B q fi le h) {k : Nat} (hk : k < 240) : mi_S pP X kX8_ofSector 3 [.ref B, .int (nI k), .int 3] h 0 0 (fun r h1 => r = some (.int (q.2.1 k).2.2.2.1) ∧ h1 = h) := by
  refine enX8_ofSector (Nat.le_of_ble_eq_true rfl) ?_
  refine mi_blk okX8_ofSector 1 (pc' := 1) (lv' := [(0, .ref B), (1, .int (nI k)), (2, .int 3)]) (st' := [.int (nI k)]) rfl ?_
  refine mi_callS okX8_ofSector (mc := 0) (ms := 0) (mc' := 0) (ms' := 0) (As := [.int (nI k)]) (st := []) rfl cs_RX8_188 rfl (by decide) (Nat.le_of_ble_eq_true rfl) (c_checkSector hk) (fun r h1 q => ?_)
  obtain ⟨rfl, e9⟩ := q; have e9 := e9.symm; subst e9
  change mi_W pP X kX8_ofSector 3 0 0 4 [(0, .ref B), (1, .int (nI k)), (2, .int 3)] [] h _
  refine mi_blk okX8_ofSector 1 (pc' := 5) (lv' := [(0, .ref B), (1, .int (nI k)), (2, .int 3)]) (st' := [.ref B]) rfl ?_
  refine mi_getf okX8_ofSector rfl fg_RX8_11 (show 6 ≤ _ by have := hw.z; omega) (show _ < h.1 by have := hw.z; omega) hw.ph (v := .ref (B + 1)) rfl ?_
  refine mi_blk okX8_ofSector 1 (pc' := 9) (lv' := [(0, .ref B), (1, .int (nI k)), (2, .int 3)]) (st' := [.int (nI k), .ref (B + 1)]) rfl ?_
  refine ph_aaS okX8_ofSector (s := k) rfl hw hk ?_
  refine mi_blk okX8_ofSector 2 (pc' := 12) (lv' := [(3, .ref (B + 30 + 2 * k)), (0, .ref B), (1, .int (nI k)), (2, .int 3)]) (st' := [.int 3]) rfl ?_
  refine mi_swin swX8_ofSector_12 (x := 3) (by decide) (by decide) rfl rfl ?_
  refine mi_blk okX8_ofSector 1 (pc' := 95) (lv' := [(3, .ref (B + 30 + 2 * k)), (0, .ref B), (1, .int (nI k)), (2, .int 3)]) (st' := [.ref (B + 30 + 2 * k)]) rfl ?_
  refine mi_getf okX8_ofSector rfl fg_RX8_196 (show 6 ≤ _ by have := hw.z; omega) (show _ < h.1 by have := hw.z; omega) (hw.se k hk) (v := .int ((q.2.1 k).2.2.2.1)) rfl ?_
  exact mi_ret_i okX8_ofSector rfl rfl rfl ⟨rfl, rfl⟩
set_option maxHeartbeats 4000000 in
set_option maxRecDepth 100000 in
theorem c_ofSector_4 {X : mi_X} {h : mi_H} {B : Nat} {q : ph_T} {fi le : Nat → Nat → Int32} (hw : ph_W B q fi le h) {k : Nat} (hk : k < 240) : mi_S pP X kX8_ofSector 3 [.ref B, .int (nI k), .int 4] h 0 0 (fun r h1 => r = some (.int (q.2.1 k).2.2.2.2.2.1) ∧ h1 = h) := by
  refine enX8_ofSector (Nat.le_of_ble_eq_true rfl) ?_
  refine mi_blk okX8_ofSector 1 (pc' := 1) (lv' := [(0, .ref B), (1, .int (nI k)), (2, .int 4)]) (st' := [.int (nI k)]) rfl ?_
  refine mi_callS okX8_ofSector (mc := 0) (ms := 0) (mc' := 0) (ms' := 0) (As := [.int (nI k)]) (st := []) rfl cs_RX8_188 rfl (by decide) (Nat.le_of_ble_eq_true rfl) (c_checkSector hk) (fun r h1 q => ?_)
  obtain ⟨rfl, e9⟩ := q; have e9 := e9.symm; subst e9
  change mi_W pP X kX8_ofSector 3 0 0 4 [(0, .ref B), (1, .int (nI k)), (2, .int 4)] [] h _
  refine mi_blk okX8_ofSector 1 (pc' := 5) (lv' := [(0, .ref B), (1, .int (nI k)), (2, .int 4)]) (st' := [.ref B]) rfl ?_
  refine mi_getf okX8_ofSector rfl fg_RX8_11 (show 6 ≤ _ by have := hw.z; omega) (show _ < h.1 by have := hw.z; omega) hw.ph (v := .ref (B + 1)) rfl ?_
  refine mi_blk okX8_ofSector 1 (pc' := 9) (lv' := [(0, .ref B), (1, .int (nI k)), (2, .int 4)]) (st' := [.int (nI k), .ref (B + 1)]) rfl ?_
  refine ph_aaS okX8_ofSector (s := k) rfl hw hk ?_
  refine mi_blk okX8_ofSector 2 (pc' := 12) (lv' := [(3, .ref (B + 30 + 2 * k)), (0, .ref B), (1, .int (nI k)), (2, .int 4)]) (st' := [.int 4]) rfl ?_
  refine mi_swin swX8_ofSector_12 (x := 4) (by decide) (by decide) rfl rfl ?_
  refine mi_blk okX8_ofSector 1 (pc' := 100) (lv' := [(3, .ref (B + 30 + 2 * k)), (0, .ref B), (1, .int (nI k)), (2, .int 4)]) (st' := [.ref (B + 30 + 2 * k)]) rfl ?_
  refine mi_getf okX8_ofSector rfl fg_RX8_224 (show 6 ≤ _ by have := hw.z; omega) (show _ < h.1 by have := hw.z; omega) (hw.se k hk) (v := .int ((q.2.1 k).2.2.2.2.2.1)) rfl ?_
  exact mi_ret_i okX8_ofSector rfl rfl rfl ⟨rfl, rfl⟩
set_option maxHeartbeats 4000000 in
set_option maxRecDepth 100000 in
theorem c_ofSector_5 {X : mi_X} {h : mi_H} {B : Nat} {q : ph_T} {fi le : Nat → Nat → Int32} (hw : ph_W B q fi le h) {k : Nat} (hk : k < 240) : mi_S pP X kX8_ofSector 3 [.ref B, .int (nI k), .int 5] h 0 0 (fun r h1 => r = some (.int (q.2.1 k).2.2.2.2.2.2.1) ∧ h1 = h) := by
  refine enX8_ofSector (Nat.le_of_ble_eq_true rfl) ?_
  refine mi_blk okX8_ofSector 1 (pc' := 1) (lv' := [(0, .ref B), (1, .int (nI k)), (2, .int 5)]) (st' := [.int (nI k)]) rfl ?_
  refine mi_callS okX8_ofSector (mc := 0) (ms := 0) (mc' := 0) (ms' := 0) (As := [.int (nI k)]) (st := []) rfl cs_RX8_188 rfl (by decide) (Nat.le_of_ble_eq_true rfl) (c_checkSector hk) (fun r h1 q => ?_)
  obtain ⟨rfl, e9⟩ := q; have e9 := e9.symm; subst e9
  change mi_W pP X kX8_ofSector 3 0 0 4 [(0, .ref B), (1, .int (nI k)), (2, .int 5)] [] h _
  refine mi_blk okX8_ofSector 1 (pc' := 5) (lv' := [(0, .ref B), (1, .int (nI k)), (2, .int 5)]) (st' := [.ref B]) rfl ?_
  refine mi_getf okX8_ofSector rfl fg_RX8_11 (show 6 ≤ _ by have := hw.z; omega) (show _ < h.1 by have := hw.z; omega) hw.ph (v := .ref (B + 1)) rfl ?_
  refine mi_blk okX8_ofSector 1 (pc' := 9) (lv' := [(0, .ref B), (1, .int (nI k)), (2, .int 5)]) (st' := [.int (nI k), .ref (B + 1)]) rfl ?_
  refine ph_aaS okX8_ofSector (s := k) rfl hw hk ?_
  refine mi_blk okX8_ofSector 2 (pc' := 12) (lv' := [(3, .ref (B + 30 + 2 * k)), (0, .ref B), (1, .int (nI k)), (2, .int 5)]) (st' := [.int 5]) rfl ?_
  refine mi_swin swX8_ofSector_12 (x := 5) (by decide) (by decide) rfl rfl ?_
  refine mi_blk okX8_ofSector 1 (pc' := 105) (lv' := [(3, .ref (B + 30 + 2 * k)), (0, .ref B), (1, .int (nI k)), (2, .int 5)]) (st' := [.ref (B + 30 + 2 * k)]) rfl ?_
  refine mi_getf okX8_ofSector rfl fg_RX8_227 (show 6 ≤ _ by have := hw.z; omega) (show _ < h.1 by have := hw.z; omega) (hw.se k hk) (v := .int ((q.2.1 k).2.2.2.2.2.2.1)) rfl ?_
  exact mi_ret_i okX8_ofSector rfl rfl rfl ⟨rfl, rfl⟩
set_option maxHeartbeats 4000000 in
set_option maxRecDepth 100000 in
theorem c_ofSector_6 {X : mi_X} {h : mi_H} {B : Nat} {q : ph_T} {fi le : Nat → Nat → Int32} (hw : ph_W B q fi le h) {k : Nat} (hk : k < 240) : mi_S pP X kX8_ofSector 3 [.ref B, .int (nI k), .int 6] h 0 0 (fun r h1 => r = some (.int (q.2.1 k).2.2.2.2.2.2.2) ∧ h1 = h) := by
  refine enX8_ofSector (Nat.le_of_ble_eq_true rfl) ?_
  refine mi_blk okX8_ofSector 1 (pc' := 1) (lv' := [(0, .ref B), (1, .int (nI k)), (2, .int 6)]) (st' := [.int (nI k)]) rfl ?_
  refine mi_callS okX8_ofSector (mc := 0) (ms := 0) (mc' := 0) (ms' := 0) (As := [.int (nI k)]) (st := []) rfl cs_RX8_188 rfl (by decide) (Nat.le_of_ble_eq_true rfl) (c_checkSector hk) (fun r h1 q => ?_)
  obtain ⟨rfl, e9⟩ := q; have e9 := e9.symm; subst e9
  change mi_W pP X kX8_ofSector 3 0 0 4 [(0, .ref B), (1, .int (nI k)), (2, .int 6)] [] h _
  refine mi_blk okX8_ofSector 1 (pc' := 5) (lv' := [(0, .ref B), (1, .int (nI k)), (2, .int 6)]) (st' := [.ref B]) rfl ?_
  refine mi_getf okX8_ofSector rfl fg_RX8_11 (show 6 ≤ _ by have := hw.z; omega) (show _ < h.1 by have := hw.z; omega) hw.ph (v := .ref (B + 1)) rfl ?_
  refine mi_blk okX8_ofSector 1 (pc' := 9) (lv' := [(0, .ref B), (1, .int (nI k)), (2, .int 6)]) (st' := [.int (nI k), .ref (B + 1)]) rfl ?_
  refine ph_aaS okX8_ofSector (s := k) rfl hw hk ?_
  refine mi_blk okX8_ofSector 2 (pc' := 12) (lv' := [(3, .ref (B + 30 + 2 * k)), (0, .ref B), (1, .int (nI k)), (2, .int 6)]) (st' := [.int 6]) rfl ?_
  refine mi_swin swX8_ofSector_12 (x := 6) (by decide) (by decide) rfl rfl ?_
  refine mi_blk okX8_ofSector 1 (pc' := 110) (lv' := [(3, .ref (B + 30 + 2 * k)), (0, .ref B), (1, .int (nI k)), (2, .int 6)]) (st' := [.ref (B + 30 + 2 * k)]) rfl ?_
  refine mi_getf okX8_ofSector rfl fg_RX8_230 (show 6 ≤ _ by have := hw.z; omega) (show _ < h.1 by have := hw.z; omega) (hw.se k hk) (v := .int ((q.2.1 k).2.2.2.2.2.2.2)) rfl ?_
  exact mi_ret_i okX8_ofSector rfl rfl rfl ⟨rfl, rfl⟩
set_option maxHeartbeats 4000000 in
set_option maxRecDepth 100000 in
theorem c_nibbles_1 {X : mi_X} {h : mi_H} {B : Nat} {q : ph_T} {fi le : Nat → Nat → Int32} (hw : ph_W B q fi le h) {k : Nat} (hk : k < 240) : mi_S pP X kX8_nibbles 2 [.ref B, .int (nI k), .int 1] h 0 0 (fun r h1 => r = some (.long (q.2.1 k).2.2.2.2.1) ∧ h1 = h) := by
  refine enX8_nibbles (Nat.le_of_ble_eq_true rfl) ?_
  refine mi_blk okX8_nibbles 1 (pc' := 1) (lv' := [(0, .ref B), (1, .int (nI k)), (2, .int 1)]) (st' := [.int (nI k)]) rfl ?_
  refine mi_callS okX8_nibbles (mc := 0) (ms := 0) (mc' := 0) (ms' := 0) (As := [.int (nI k)]) (st := []) rfl cs_RX8_188 rfl (by decide) (Nat.le_of_ble_eq_true rfl) (c_checkSector hk) (fun r h1 q => ?_)
  obtain ⟨rfl, e9⟩ := q; have e9 := e9.symm; subst e9
  change mi_W pP X kX8_nibbles 2 0 0 4 [(0, .ref B), (1, .int (nI k)), (2, .int 1)] [] h _
  refine mi_blk okX8_nibbles 1 (pc' := 5) (lv' := [(0, .ref B), (1, .int (nI k)), (2, .int 1)]) (st' := [.int 1]) rfl ?_
  refine mi_if_eq okX8_nibbles rfl rfl (fun c_5 => absurd c_5 (by decide)) (fun c_5 => ?_)
  refine mi_blk okX8_nibbles 1 (pc' := 9) (lv' := [(0, .ref B), (1, .int (nI k)), (2, .int 1)]) (st' := [.ref B]) rfl ?_
  refine mi_getf okX8_nibbles rfl fg_RX8_11 (show 6 ≤ _ by have := hw.z; omega) (show _ < h.1 by have := hw.z; omega) hw.ph (v := .ref (B + 1)) rfl ?_
  refine mi_blk okX8_nibbles 1 (pc' := 13) (lv' := [(0, .ref B), (1, .int (nI k)), (2, .int 1)]) (st' := [.int (nI k), .ref (B + 1)]) rfl ?_
  refine ph_aaS okX8_nibbles (s := k) rfl hw hk ?_
  refine mi_getf okX8_nibbles rfl fg_RX8_238 (show 6 ≤ _ by have := hw.z; omega) (show _ < h.1 by have := hw.z; omega) (hw.se k hk) (v := .long ((q.2.1 k).2.2.2.2.1)) rfl ?_
  refine mi_blk okX8_nibbles 1 (pc' := 29) (lv' := [(0, .ref B), (1, .int (nI k)), (2, .int 1)]) (st' := [.long ((q.2.1 k).2.2.2.2.1)]) rfl ?_
  exact mi_ret_l okX8_nibbles rfl rfl ⟨rfl, rfl⟩
/-- the TRACK that x is of: the first of those from t on, m of them -/
def ph_tof (T : Nat → tr_S) (x : Int32) : Nat → Nat → Int32
  | _, 0 => -1
  | t, m + 1 => if tr_holds (T t) x = 0 then ph_tof T x (t + 1) m else nI t
set_option maxHeartbeats 4000000 in
set_option maxRecDepth 100000 in
theorem l_tof {X : mi_X} {h : mi_H} {B : Nat} {q : ph_T} {fi le : Nat → Nat → Int32} (hw : ph_W B q fi le h) {n : Nat} (hn : n ≤ 8) (hc : q.1.2.1 = nI n) {x : Int32} {Q : Option Value → mi_H → Prop} : ∀ (m t : Nat), t + m = n → Q (some (.int (ph_tof q.2.2.2.1 x t m))) h → mi_W pP X kX8_trackOf 2 0 0 2 [(2, .int (nI t)), (0, .ref B), (1, .int x)] [] h Q := by
  intro m
  induction m with
  | zero =>
    intro t ht hQ
    refine mi_blk okX8_trackOf 2 (pc' := 4) (lv' := [(2, .int (nI t)), (0, .ref B), (1, .int x)]) (st' := [.ref B, .int (nI t)]) rfl ?_
    refine mi_getf okX8_trackOf rfl fg_RX8_46 (show 6 ≤ _ by have := hw.z; omega) (show _ < h.1 by have := hw.z; omega) hw.ph (v := .int q.1.2.1) rfl ?_
    refine mi_ic_ge okX8_trackOf rfl rfl (fun c_7 => ?_) (fun c_7 => absurd (by rw [hc]; exact nI_le (by omega) (by omega)) c_7)
    refine mi_blk okX8_trackOf 1 (pc' := 32) (lv' := [(2, .int (nI t)), (0, .ref B), (1, .int x)]) (st' := [.int (-1)]) rfl ?_
    exact mi_ret_i okX8_trackOf rfl rfl rfl hQ
  | succ m ih =>
    intro t ht hQ
    refine mi_blk okX8_trackOf 2 (pc' := 4) (lv' := [(2, .int (nI t)), (0, .ref B), (1, .int x)]) (st' := [.ref B, .int (nI t)]) rfl ?_
    refine mi_getf okX8_trackOf rfl fg_RX8_46 (show 6 ≤ _ by have := hw.z; omega) (show _ < h.1 by have := hw.z; omega) hw.ph (v := .int q.1.2.1) rfl ?_
    refine mi_ic_ge okX8_trackOf rfl rfl (fun c_7 => absurd c_7 (by rw [hc]; exact nI_ge (by omega) (by omega))) (fun c_7 => ?_)
    refine mi_blk okX8_trackOf 1 (pc' := 11) (lv' := [(2, .int (nI t)), (0, .ref B), (1, .int x)]) (st' := [.ref B]) rfl ?_
    refine mi_getf okX8_trackOf rfl fg_RX8_17 (show 6 ≤ _ by have := hw.z; omega) (show _ < h.1 by have := hw.z; omega) hw.ph (v := .ref (B + 2)) rfl ?_
    refine mi_blk okX8_trackOf 1 (pc' := 15) (lv' := [(2, .int (nI t)), (0, .ref B), (1, .int x)]) (st' := [.int (nI t), .ref (B + 2)]) rfl ?_
    refine ph_aaT okX8_trackOf (s := t) rfl hw (by omega) ?_
    refine mi_blk okX8_trackOf 1 (pc' := 17) (lv' := [(2, .int (nI t)), (0, .ref B), (1, .int x)]) (st' := [.int x, .ref (B + 510 + t)]) rfl ?_
    refine mi_callV okX8_trackOf (mc := 0) (ms := 0) (mc' := 0) (ms' := 0) (b := (B + 510 + t)) (As := [.int x]) (st := []) rfl cv_RX8_146 rfl (by decide) (show 6 ≤ _ by have := hw.z; omega) (show _ < h.1 by have := hw.z; omega) (hw.tr t (by omega)) rfl (Nat.le_of_ble_eq_true rfl) (c_holds (show 6 ≤ _ by have := hw.z; omega) (show _ < h.1 by have := hw.z; omega) (hw.tr t (by omega))) (fun r h1 q => ?_)
    obtain ⟨rfl, e9⟩ := q; have e9 := e9.symm; subst e9
    change mi_W pP X kX8_trackOf 2 0 0 20 [(2, .int (nI t)), (0, .ref B), (1, .int x)] [.int (tr_holds (q.2.2.2.1 t) x)] h _
    refine mi_if_eq okX8_trackOf rfl rfl (fun c_20 => ?_) (fun c_20 => ?_)
    · refine mi_blk okX8_trackOf 2 (pc' := 2) (lv' := [(2, .int ((nI t) + 1)), (0, .ref B), (1, .int x)]) (st' := []) rfl ?_
      rw [← nI_succ]
      exact ih (t + 1) (by omega) (by rw [ph_tof, if_pos c_20] at hQ; exact hQ)
    · refine mi_blk okX8_trackOf 1 (pc' := 24) (lv' := [(2, .int (nI t)), (0, .ref B), (1, .int x)]) (st' := [.int (nI t)]) rfl ?_
      exact mi_ret_i okX8_trackOf rfl rfl rfl (by rw [ph_tof, if_neg c_20] at hQ; exact hQ)
set_option maxHeartbeats 4000000 in
set_option maxRecDepth 100000 in
theorem c_trackOf {X : mi_X} {h : mi_H} {B : Nat} {q : ph_T} {fi le : Nat → Nat → Int32} (hw : ph_W B q fi le h) {n : Nat} (hn : n ≤ 8) (hc : q.1.2.1 = nI n) {x : Int32} : mi_S pP X kX8_trackOf 2 [.ref B, .int x] h 0 0 (fun r h1 => r = some (.int (ph_tof q.2.2.2.1 x 0 n)) ∧ h1 = h) := by
  refine enX8_trackOf (Nat.le_of_ble_eq_true rfl) ?_
  refine mi_blk okX8_trackOf 2 (pc' := 2) (lv' := [(2, .int 0), (0, .ref B), (1, .int x)]) (st' := []) rfl ?_
  change mi_W pP X kX8_trackOf 2 0 0 2 [(2, .int (nI 0)), (0, .ref B), (1, .int x)] [] h _
  exact l_tof hw hn hc n 0 (Nat.zero_add n) ⟨rfl, rfl⟩
set_option maxHeartbeats 4000000 in
set_option maxRecDepth 100000 in
theorem c_ofSector_0 {X : mi_X} {h : mi_H} {B : Nat} {q : ph_T} {fi le : Nat → Nat → Int32} (hw : ph_W B q fi le h) {k : Nat} (hk : k < 240) {n : Nat} (hn : n ≤ 8) (hc : q.1.2.1 = nI n) : mi_S pP X kX8_ofSector 3 [.ref B, .int (nI k), .int 0] h 0 0 (fun r h1 => r = some (.int (ph_tof q.2.2.2.1 (nI k) 0 n)) ∧ h1 = h) := by
  refine enX8_ofSector (Nat.le_of_ble_eq_true rfl) ?_
  refine mi_blk okX8_ofSector 1 (pc' := 1) (lv' := [(0, .ref B), (1, .int (nI k)), (2, .int 0)]) (st' := [.int (nI k)]) rfl ?_
  refine mi_callS okX8_ofSector (mc := 0) (ms := 0) (mc' := 0) (ms' := 0) (As := [.int (nI k)]) (st := []) rfl cs_RX8_188 rfl (by decide) (Nat.le_of_ble_eq_true rfl) (c_checkSector hk) (fun r h1 q => ?_)
  obtain ⟨rfl, e9⟩ := q; have e9 := e9.symm; subst e9
  change mi_W pP X kX8_ofSector 3 0 0 4 [(0, .ref B), (1, .int (nI k)), (2, .int 0)] [] h _
  refine mi_blk okX8_ofSector 1 (pc' := 5) (lv' := [(0, .ref B), (1, .int (nI k)), (2, .int 0)]) (st' := [.ref B]) rfl ?_
  refine mi_getf okX8_ofSector rfl fg_RX8_11 (show 6 ≤ _ by have := hw.z; omega) (show _ < h.1 by have := hw.z; omega) hw.ph (v := .ref (B + 1)) rfl ?_
  refine mi_blk okX8_ofSector 1 (pc' := 9) (lv' := [(0, .ref B), (1, .int (nI k)), (2, .int 0)]) (st' := [.int (nI k), .ref (B + 1)]) rfl ?_
  refine ph_aaS okX8_ofSector (s := k) rfl hw hk ?_
  refine mi_blk okX8_ofSector 2 (pc' := 12) (lv' := [(3, .ref (B + 30 + 2 * k)), (0, .ref B), (1, .int (nI k)), (2, .int 0)]) (st' := [.int 0]) rfl ?_
  refine mi_swin swX8_ofSector_12 (x := 0) (by decide) (by decide) rfl rfl ?_
  refine mi_blk okX8_ofSector 2 (pc' := 66) (lv' := [(3, .ref (B + 30 + 2 * k)), (0, .ref B), (1, .int (nI k)), (2, .int 0)]) (st' := [.int (nI k), .ref B]) rfl ?_
  refine mi_callV okX8_ofSector (mc := 0) (ms := 0) (mc' := 0) (ms' := 0) (b := B) (As := [.int (nI k)]) (st := []) rfl cv_RX8_142 rfl (by decide) (show 6 ≤ _ by have := hw.z; omega) (show _ < h.1 by have := hw.z; omega) hw.ph rfl (Nat.le_of_ble_eq_true rfl) (c_trackOf hw hn hc) (fun r h1 q => ?_)
  obtain ⟨rfl, e9⟩ := q; have e9 := e9.symm; subst e9
  change mi_W pP X kX8_ofSector 3 0 0 69 [(3, .ref (B + 30 + 2 * k)), (0, .ref B), (1, .int (nI k)), (2, .int 0)] [.int (ph_tof q.2.2.2.1 (nI k) 0 n)] h _
  exact mi_ret_i okX8_ofSector rfl rfl rfl ⟨rfl, rfl⟩
set_option maxHeartbeats 4000000 in
set_option maxRecDepth 100000 in
theorem c_isGood {X : mi_X} {h : mi_H} {B : Nat} {q : ph_T} {fi le : Nat → Nat → Int32} (hw : ph_W B q fi le h) {k : Nat} (hk : k < 240) : mi_S pP X kX8_isGood 1 [.ref B, .int (nI k)] h 0 0 (fun r h1 => r = some (.int (if (q.2.1 k).2.2.2.1 = 0 then 1 else 0)) ∧ h1 = h) := by
  refine enX8_isGood (Nat.le_of_ble_eq_true rfl) ?_
  refine mi_blk okX8_isGood 1 (pc' := 1) (lv' := [(0, .ref B), (1, .int (nI k))]) (st' := [.int (nI k)]) rfl ?_
  refine mi_callS okX8_isGood (mc := 0) (ms := 0) (mc' := 0) (ms' := 0) (As := [.int (nI k)]) (st := []) rfl cs_RX8_136 rfl (by decide) (Nat.le_of_ble_eq_true rfl) (c_isSector hk) (fun r h1 q => ?_)
  obtain ⟨rfl, e9⟩ := q; have e9 := e9.symm; subst e9
  change mi_W pP X kX8_isGood 1 0 0 4 [(0, .ref B), (1, .int (nI k))] [.int 1] h _
  refine mi_if_eq okX8_isGood rfl rfl (fun c_4 => absurd c_4 (by decide)) (fun c_4 => ?_)
  refine mi_blk okX8_isGood 1 (pc' := 8) (lv' := [(0, .ref B), (1, .int (nI k))]) (st' := [.ref B]) rfl ?_
  refine mi_getf okX8_isGood rfl fg_RX8_11 (show 6 ≤ _ by have := hw.z; omega) (show _ < h.1 by have := hw.z; omega) hw.ph (v := .ref (B + 1)) rfl ?_
  refine mi_blk okX8_isGood 1 (pc' := 12) (lv' := [(0, .ref B), (1, .int (nI k))]) (st' := [.int (nI k), .ref (B + 1)]) rfl ?_
  refine ph_aaS okX8_isGood (s := k) rfl hw hk ?_
  refine mi_getf okX8_isGood rfl fg_RX8_196 (show 6 ≤ _ by have := hw.z; omega) (show _ < h.1 by have := hw.z; omega) (hw.se k hk) (v := .int ((q.2.1 k).2.2.2.1)) rfl ?_
  refine mi_if_ne okX8_isGood rfl rfl (fun c_16 => ?_) (fun c_16 => ?_)
  · refine mi_blk okX8_isGood 1 (pc' := 24) (lv' := [(0, .ref B), (1, .int (nI k))]) (st' := [.int 0]) rfl ?_
    exact mi_ret_i okX8_isGood rfl rfl rfl ⟨by rw [if_neg c_16], rfl⟩
  · refine mi_blk okX8_isGood 2 (pc' := 24) (lv' := [(0, .ref B), (1, .int (nI k))]) (st' := [.int 1]) rfl ?_
    exact mi_ret_i okX8_isGood rfl rfl rfl ⟨by rw [if_pos c_16], rfl⟩
/-- how many of the SECTORS from f on, j of them, are GOOD -/
def ph_gd (S : Nat → se_S) (f : Nat) : Nat → Int32
  | 0 => 0
  | j + 1 => if (S (f + j)).2.2.2.1 = 0 then ph_gd S f j + 1 else ph_gd S f j
set_option maxHeartbeats 4000000 in
set_option maxRecDepth 100000 in
theorem l_gf {X : mi_X} {h : mi_H} {B : Nat} {q : ph_T} {fi le : Nat → Nat → Int32} (hw : ph_W B q fi le h) {f g : Nat} (hg : f + g ≤ 240) {Q : Option Value → mi_H → Prop} : ∀ (m t : Nat), t + m = g → Q (some (.int (ph_gd q.2.1 f g))) h → mi_W pP X kX8_goodFrom 2 0 0 5 [(4, .int (nI (f + t))), (3, .int (ph_gd q.2.1 f t)), (0, .ref B), (1, .int (nI f)), (2, .int (nI g))] [] h Q := by
  intro m
  induction m with
  | zero =>
    intro t ht hQ
    refine mi_blk okX8_goodFrom 4 (pc' := 10) (lv' := [(4, .int (nI (f + t))), (3, .int (ph_gd q.2.1 f t)), (0, .ref B), (1, .int (nI f)), (2, .int (nI g))]) (st' := [.int ((nI f) + (nI g)), .int (nI (f + t))]) rfl ?_
    refine mi_ic_ge okX8_goodFrom rfl rfl (fun c_10 => ?_) (fun c_10 => absurd (by rw [nI_add, show t = g by omega]; exact nI_le (by omega) (by omega)) c_10)
    refine mi_blk okX8_goodFrom 1 (pc' := 32) (lv' := [(4, .int (nI (f + t))), (3, .int (ph_gd q.2.1 f t)), (0, .ref B), (1, .int (nI f)), (2, .int (nI g))]) (st' := [.int (ph_gd q.2.1 f t)]) rfl ?_
    exact mi_ret_i okX8_goodFrom rfl rfl rfl (by rw [show t = g by omega]; exact hQ)
  | succ m ih =>
    intro t ht hQ
    refine mi_blk okX8_goodFrom 4 (pc' := 10) (lv' := [(4, .int (nI (f + t))), (3, .int (ph_gd q.2.1 f t)), (0, .ref B), (1, .int (nI f)), (2, .int (nI g))]) (st' := [.int ((nI f) + (nI g)), .int (nI (f + t))]) rfl ?_
    refine mi_ic_ge okX8_goodFrom rfl rfl (fun c_10 => absurd c_10 (by rw [nI_add]; exact nI_ge (by omega) (by omega))) (fun c_10 => ?_)
    refine mi_blk okX8_goodFrom 2 (pc' := 16) (lv' := [(4, .int (nI (f + t))), (3, .int (ph_gd q.2.1 f t)), (0, .ref B), (1, .int (nI f)), (2, .int (nI g))]) (st' := [.int (nI (f + t)), .ref B]) rfl ?_
    refine mi_callV okX8_goodFrom (mc := 0) (ms := 0) (mc' := 0) (ms' := 0) (b := B) (As := [.int (nI (f + t))]) (st := []) rfl cv_RX8_360 rfl (by decide) (show 6 ≤ _ by have := hw.z; omega) (show _ < h.1 by have := hw.z; omega) hw.ph rfl (Nat.le_of_ble_eq_true rfl) (c_isGood hw (k := f + t) (by omega)) (fun r h1 q => ?_)
    obtain ⟨rfl, e9⟩ := q; have e9 := e9.symm; subst e9
    change mi_W pP X kX8_goodFrom 2 0 0 19 [(4, .int (nI (f + t))), (3, .int (ph_gd q.2.1 f t)), (0, .ref B), (1, .int (nI f)), (2, .int (nI g))] [.int (if (q.2.1 (f + t)).2.2.2.1 = 0 then 1 else 0)] h _
    refine mi_if_eq okX8_goodFrom rfl rfl (fun c_19 => ?_) (fun c_19 => ?_)
    · refine mi_blk okX8_goodFrom 2 (pc' := 5) (lv' := [(4, .int ((nI (f + t)) + 1)), (3, .int (ph_gd q.2.1 f t)), (0, .ref B), (1, .int (nI f)), (2, .int (nI g))]) (st' := []) rfl ?_
      have e : ph_gd q.2.1 f (t + 1) = ph_gd q.2.1 f t := if_neg (fun z => by rw [if_pos z] at c_19; exact absurd c_19 (by decide))
      rw [← e, ← nI_succ]
      exact ih (t + 1) (by omega) hQ
    · refine mi_blk okX8_goodFrom 3 (pc' := 5) (lv' := [(4, .int ((nI (f + t)) + 1)), (3, .int ((ph_gd q.2.1 f t) + 1)), (0, .ref B), (1, .int (nI f)), (2, .int (nI g))]) (st' := []) rfl ?_
      have e : ph_gd q.2.1 f (t + 1) = ph_gd q.2.1 f t + 1 := if_pos (Classical.byContradiction fun z => c_19 (if_neg z))
      rw [← e, ← nI_succ]
      exact ih (t + 1) (by omega) hQ
set_option maxHeartbeats 4000000 in
set_option maxRecDepth 100000 in
theorem c_goodFrom {X : mi_X} {h : mi_H} {B : Nat} {q : ph_T} {fi le : Nat → Nat → Int32} (hw : ph_W B q fi le h) {f g : Nat} (hg : f + g ≤ 240) : mi_S pP X kX8_goodFrom 2 [.ref B, .int (nI f), .int (nI g)] h 0 0 (fun r h1 => r = some (.int (ph_gd q.2.1 f g)) ∧ h1 = h) := by
  refine enX8_goodFrom (Nat.le_of_ble_eq_true rfl) ?_
  refine mi_blk okX8_goodFrom 4 (pc' := 5) (lv' := [(4, .int (nI f)), (3, .int 0), (0, .ref B), (1, .int (nI f)), (2, .int (nI g))]) (st' := []) rfl ?_
  change mi_W pP X kX8_goodFrom 2 0 0 5 [(4, .int (nI (f + 0))), (3, .int (ph_gd q.2.1 f 0)), (0, .ref B), (1, .int (nI f)), (2, .int (nI g))] [] h _
  exact l_gf hw hg g 0 (Nat.zero_add g) ⟨rfl, rfl⟩
/-- how many of the first j SECTORS are WRITTEN and in the state x -/
def ph_wo (S : Nat → se_S) (x : Int32) : Nat → Int32
  | 0 => 0
  | j + 1 => if (S j).1 = 0 then ph_wo S x j else if (S j).2.2.2.1 = x then ph_wo S x j + 1 else ph_wo S x j
set_option maxHeartbeats 4000000 in
set_option maxRecDepth 100000 in
theorem l_wo {X : mi_X} {h : mi_H} {B : Nat} {q : ph_T} {fi le : Nat → Nat → Int32} (hw : ph_W B q fi le h) {x : Int32} {Q : Option Value → mi_H → Prop} : ∀ (m t : Nat), t + m = 240 → Q (some (.int (ph_wo q.2.1 x 240))) h → mi_W pP X kX8_writtenOf 0 0 0 4 [(3, .int (nI t)), (2, .int (ph_wo q.2.1 x t)), (0, .ref B), (1, .int x)] [] h Q := by
  intro m
  induction m with
  | zero =>
    intro t ht hQ
    refine mi_blk okX8_writtenOf 2 (pc' := 8) (lv' := [(3, .int (nI t)), (2, .int (ph_wo q.2.1 x t)), (0, .ref B), (1, .int x)]) (st' := [.int 240, .int (nI t)]) rfl ?_
    refine mi_ic_ge okX8_writtenOf rfl rfl (fun c_8 => ?_) (fun c_8 => absurd (by rw [show t = 240 by omega]; decide) c_8)
    refine mi_blk okX8_writtenOf 1 (pc' := 46) (lv' := [(3, .int (nI t)), (2, .int (ph_wo q.2.1 x t)), (0, .ref B), (1, .int x)]) (st' := [.int (ph_wo q.2.1 x t)]) rfl ?_
    exact mi_ret_i okX8_writtenOf rfl rfl rfl (by rw [show t = 240 by omega]; exact hQ)
  | succ m ih =>
    intro t ht hQ
    refine mi_blk okX8_writtenOf 2 (pc' := 8) (lv' := [(3, .int (nI t)), (2, .int (ph_wo q.2.1 x t)), (0, .ref B), (1, .int x)]) (st' := [.int 240, .int (nI t)]) rfl ?_
    refine mi_ic_ge okX8_writtenOf rfl rfl (fun c_8 => absurd c_8 (nI_ge (a := t) (b := 240) (by omega) (by decide))) (fun c_8 => ?_)
    refine mi_blk okX8_writtenOf 1 (pc' := 12) (lv' := [(3, .int (nI t)), (2, .int (ph_wo q.2.1 x t)), (0, .ref B), (1, .int x)]) (st' := [.ref B]) rfl ?_
    refine mi_getf okX8_writtenOf rfl fg_RX8_11 (show 6 ≤ _ by have := hw.z; omega) (show _ < h.1 by have := hw.z; omega) hw.ph (v := .ref (B + 1)) rfl ?_
    refine mi_blk okX8_writtenOf 1 (pc' := 16) (lv' := [(3, .int (nI t)), (2, .int (ph_wo q.2.1 x t)), (0, .ref B), (1, .int x)]) (st' := [.int (nI t), .ref (B + 1)]) rfl ?_
    refine ph_aaS okX8_writtenOf (s := t) rfl hw (by omega) ?_
    refine mi_getf okX8_writtenOf rfl fg_RX8_169 (show 6 ≤ _ by have := hw.z; omega) (show _ < h.1 by have := hw.z; omega) (hw.se t (by omega)) (v := .int ((q.2.1 t).1)) rfl ?_
    refine mi_if_eq okX8_writtenOf rfl rfl (fun c_20 => ?_) (fun c_20 => ?_)
    · refine mi_blk okX8_writtenOf 2 (pc' := 4) (lv' := [(3, .int ((nI t) + 1)), (2, .int (ph_wo q.2.1 x t)), (0, .ref B), (1, .int x)]) (st' := []) rfl ?_
      have e : ph_wo q.2.1 x (t + 1) = ph_wo q.2.1 x t := (if_pos c_20)
      rw [← e, ← nI_succ]
      exact ih (t + 1) (by omega) hQ
    · refine mi_blk okX8_writtenOf 1 (pc' := 24) (lv' := [(3, .int (nI t)), (2, .int (ph_wo q.2.1 x t)), (0, .ref B), (1, .int x)]) (st' := [.ref B]) rfl ?_
      refine mi_getf okX8_writtenOf rfl fg_RX8_11 (show 6 ≤ _ by have := hw.z; omega) (show _ < h.1 by have := hw.z; omega) hw.ph (v := .ref (B + 1)) rfl ?_
      refine mi_blk okX8_writtenOf 1 (pc' := 28) (lv' := [(3, .int (nI t)), (2, .int (ph_wo q.2.1 x t)), (0, .ref B), (1, .int x)]) (st' := [.int (nI t), .ref (B + 1)]) rfl ?_
      refine ph_aaS okX8_writtenOf (s := t) rfl hw (by omega) ?_
      refine mi_getf okX8_writtenOf rfl fg_RX8_196 (show 6 ≤ _ by have := hw.z; omega) (show _ < h.1 by have := hw.z; omega) (hw.se t (by omega)) (v := .int ((q.2.1 t).2.2.2.1)) rfl ?_
      refine mi_blk okX8_writtenOf 1 (pc' := 33) (lv' := [(3, .int (nI t)), (2, .int (ph_wo q.2.1 x t)), (0, .ref B), (1, .int x)]) (st' := [.int x, .int ((q.2.1 t).2.2.2.1)]) rfl ?_
      refine mi_ic_ne okX8_writtenOf rfl rfl (fun c_33 => ?_) (fun c_33 => ?_)
      · refine mi_blk okX8_writtenOf 2 (pc' := 4) (lv' := [(3, .int ((nI t) + 1)), (2, .int (ph_wo q.2.1 x t)), (0, .ref B), (1, .int x)]) (st' := []) rfl ?_
        have e : ph_wo q.2.1 x (t + 1) = ph_wo q.2.1 x t := ((if_neg c_20).trans (if_neg c_33))
        rw [← e, ← nI_succ]
        exact ih (t + 1) (by omega) hQ
      · refine mi_blk okX8_writtenOf 3 (pc' := 4) (lv' := [(3, .int ((nI t) + 1)), (2, .int ((ph_wo q.2.1 x t) + 1)), (0, .ref B), (1, .int x)]) (st' := []) rfl ?_
        have e : ph_wo q.2.1 x (t + 1) = ph_wo q.2.1 x t + 1 := ((if_neg c_20).trans (if_pos c_33))
        rw [← e, ← nI_succ]
        exact ih (t + 1) (by omega) hQ
set_option maxHeartbeats 4000000 in
set_option maxRecDepth 100000 in
theorem c_writtenOf {X : mi_X} {h : mi_H} {B : Nat} {q : ph_T} {fi le : Nat → Nat → Int32} (hw : ph_W B q fi le h) {x : Int32} : mi_S pP X kX8_writtenOf 0 [.ref B, .int x] h 0 0 (fun r h1 => r = some (.int (ph_wo q.2.1 x 240)) ∧ h1 = h) := by
  refine enX8_writtenOf (Nat.le_of_ble_eq_true rfl) ?_
  refine mi_blk okX8_writtenOf 4 (pc' := 4) (lv' := [(3, .int 0), (2, .int 0), (0, .ref B), (1, .int x)]) (st' := []) rfl ?_
  change mi_W pP X kX8_writtenOf 0 0 0 4 [(3, .int (nI 0)), (2, .int (ph_wo q.2.1 x 0)), (0, .ref B), (1, .int x)] [] h _
  exact l_wo hw 240 0 rfl ⟨rfl, rfl⟩
/-- what many() tells -/
def ph_mny (q : ph_T) (i : Nat) : Int32 := [q.1.1, q.1.2.1, q.1.2.2.1, q.1.2.2.2.1, (ph_wo q.2.1 0 240 + ph_wo q.2.1 1 240 + ph_wo q.2.1 2 240), (ph_wo q.2.1 0 240), (ph_wo q.2.1 1 240), (ph_wo q.2.1 2 240), (nI q.2.2.2.2.1.1), q.2.2.2.2.1.2.2.1, (if q.1.2.2.2.2 = 0 then 0 else 1), q.2.2.2.2.1.2.2.2.2, (if q.2.2.2.2.1.2.2.2.1 = 0 then 0 else 1)].getD i 0
set_option maxHeartbeats 4000000 in
set_option maxRecDepth 100000 in
theorem c_many_0 {X : mi_X} {h : mi_H} {B : Nat} {q : ph_T} {fi le : Nat → Nat → Int32} (hw : ph_W B q fi le h) : mi_S pP X kX8_many 1 [.ref B, .int 0] h 0 0 (fun r h1 => r = some (.int q.1.1) ∧ h1 = h) := by
  refine enX8_many (Nat.le_of_ble_eq_true rfl) ?_
  refine mi_blk okX8_many 1 (pc' := 1) (lv' := [(0, .ref B), (1, .int 0)]) (st' := [.int 0]) rfl ?_
  refine mi_swin swX8_many_1 (x := 0) (by decide) (by decide) rfl rfl ?_
  refine mi_blk okX8_many 1 (pc' := 69) (lv' := [(0, .ref B), (1, .int 0)]) (st' := [.ref B]) rfl ?_
  refine mi_getf okX8_many rfl fg_RX8_42 (show 6 ≤ _ by have := hw.z; omega) (show _ < h.1 by have := hw.z; omega) hw.ph (v := .int q.1.1) rfl ?_
  exact mi_ret_i okX8_many rfl rfl rfl ⟨rfl, rfl⟩
set_option maxHeartbeats 4000000 in
set_option maxRecDepth 100000 in
theorem c_many_1 {X : mi_X} {h : mi_H} {B : Nat} {q : ph_T} {fi le : Nat → Nat → Int32} (hw : ph_W B q fi le h) : mi_S pP X kX8_many 1 [.ref B, .int 1] h 0 0 (fun r h1 => r = some (.int q.1.2.1) ∧ h1 = h) := by
  refine enX8_many (Nat.le_of_ble_eq_true rfl) ?_
  refine mi_blk okX8_many 1 (pc' := 1) (lv' := [(0, .ref B), (1, .int 1)]) (st' := [.int 1]) rfl ?_
  refine mi_swin swX8_many_1 (x := 1) (by decide) (by decide) rfl rfl ?_
  refine mi_blk okX8_many 1 (pc' := 74) (lv' := [(0, .ref B), (1, .int 1)]) (st' := [.ref B]) rfl ?_
  refine mi_getf okX8_many rfl fg_RX8_46 (show 6 ≤ _ by have := hw.z; omega) (show _ < h.1 by have := hw.z; omega) hw.ph (v := .int q.1.2.1) rfl ?_
  exact mi_ret_i okX8_many rfl rfl rfl ⟨rfl, rfl⟩
set_option maxHeartbeats 4000000 in
set_option maxRecDepth 100000 in
theorem c_many_2 {X : mi_X} {h : mi_H} {B : Nat} {q : ph_T} {fi le : Nat → Nat → Int32} (hw : ph_W B q fi le h) : mi_S pP X kX8_many 1 [.ref B, .int 2] h 0 0 (fun r h1 => r = some (.int q.1.2.2.1) ∧ h1 = h) := by
  refine enX8_many (Nat.le_of_ble_eq_true rfl) ?_
  refine mi_blk okX8_many 1 (pc' := 1) (lv' := [(0, .ref B), (1, .int 2)]) (st' := [.int 2]) rfl ?_
  refine mi_swin swX8_many_1 (x := 2) (by decide) (by decide) rfl rfl ?_
  refine mi_blk okX8_many 1 (pc' := 79) (lv' := [(0, .ref B), (1, .int 2)]) (st' := [.ref B]) rfl ?_
  refine mi_getf okX8_many rfl fg_RX8_49 (show 6 ≤ _ by have := hw.z; omega) (show _ < h.1 by have := hw.z; omega) hw.ph (v := .int q.1.2.2.1) rfl ?_
  exact mi_ret_i okX8_many rfl rfl rfl ⟨rfl, rfl⟩
set_option maxHeartbeats 4000000 in
set_option maxRecDepth 100000 in
theorem c_many_3 {X : mi_X} {h : mi_H} {B : Nat} {q : ph_T} {fi le : Nat → Nat → Int32} (hw : ph_W B q fi le h) : mi_S pP X kX8_many 1 [.ref B, .int 3] h 0 0 (fun r h1 => r = some (.int q.1.2.2.2.1) ∧ h1 = h) := by
  refine enX8_many (Nat.le_of_ble_eq_true rfl) ?_
  refine mi_blk okX8_many 1 (pc' := 1) (lv' := [(0, .ref B), (1, .int 3)]) (st' := [.int 3]) rfl ?_
  refine mi_swin swX8_many_1 (x := 3) (by decide) (by decide) rfl rfl ?_
  refine mi_blk okX8_many 1 (pc' := 84) (lv' := [(0, .ref B), (1, .int 3)]) (st' := [.ref B]) rfl ?_
  refine mi_getf okX8_many rfl fg_RX8_52 (show 6 ≤ _ by have := hw.z; omega) (show _ < h.1 by have := hw.z; omega) hw.ph (v := .int q.1.2.2.2.1) rfl ?_
  exact mi_ret_i okX8_many rfl rfl rfl ⟨rfl, rfl⟩
set_option maxHeartbeats 4000000 in
set_option maxRecDepth 100000 in
theorem c_many_4 {X : mi_X} {h : mi_H} {B : Nat} {q : ph_T} {fi le : Nat → Nat → Int32} (hw : ph_W B q fi le h) : mi_S pP X kX8_many 1 [.ref B, .int 4] h 0 0 (fun r h1 => r = some (.int (ph_wo q.2.1 0 240 + ph_wo q.2.1 1 240 + ph_wo q.2.1 2 240)) ∧ h1 = h) := by
  refine enX8_many (Nat.le_of_ble_eq_true rfl) ?_
  refine mi_blk okX8_many 1 (pc' := 1) (lv' := [(0, .ref B), (1, .int 4)]) (st' := [.int 4]) rfl ?_
  refine mi_swin swX8_many_1 (x := 4) (by decide) (by decide) rfl rfl ?_
  refine mi_blk okX8_many 2 (pc' := 90) (lv' := [(0, .ref B), (1, .int 4)]) (st' := [.int 0, .ref B]) rfl ?_
  refine mi_callV okX8_many (mc := 0) (ms := 0) (mc' := 0) (ms' := 0) (b := B) (As := [.int 0]) (st := []) rfl cv_RX8_295 rfl (by decide) (show 6 ≤ _ by have := hw.z; omega) (show _ < h.1 by have := hw.z; omega) hw.ph rfl (Nat.le_of_ble_eq_true rfl) (c_writtenOf hw) (fun r h1 q => ?_)
  obtain ⟨rfl, e9⟩ := q; have e9 := e9.symm; subst e9
  change mi_W pP X kX8_many 1 0 0 93 [(0, .ref B), (1, .int 4)] [.int (ph_wo q.2.1 0 240)] h _
  refine mi_blk okX8_many 2 (pc' := 95) (lv' := [(0, .ref B), (1, .int 4)]) (st' := [.int 1, .ref B, .int (ph_wo q.2.1 0 240)]) rfl ?_
  refine mi_callV okX8_many (mc := 0) (ms := 0) (mc' := 0) (ms' := 0) (b := B) (As := [.int 1]) (st := [.int (ph_wo q.2.1 0 240)]) rfl cv_RX8_295 rfl (by decide) (show 6 ≤ _ by have := hw.z; omega) (show _ < h.1 by have := hw.z; omega) hw.ph rfl (Nat.le_of_ble_eq_true rfl) (c_writtenOf hw) (fun r h1 q => ?_)
  obtain ⟨rfl, e9⟩ := q; have e9 := e9.symm; subst e9
  change mi_W pP X kX8_many 1 0 0 98 [(0, .ref B), (1, .int 4)] [.int (ph_wo q.2.1 1 240), .int (ph_wo q.2.1 0 240)] h _
  refine mi_blk okX8_many 3 (pc' := 101) (lv' := [(0, .ref B), (1, .int 4)]) (st' := [.int 2, .ref B, .int ((ph_wo q.2.1 0 240) + (ph_wo q.2.1 1 240))]) rfl ?_
  refine mi_callV okX8_many (mc := 0) (ms := 0) (mc' := 0) (ms' := 0) (b := B) (As := [.int 2]) (st := [.int ((ph_wo q.2.1 0 240) + (ph_wo q.2.1 1 240))]) rfl cv_RX8_295 rfl (by decide) (show 6 ≤ _ by have := hw.z; omega) (show _ < h.1 by have := hw.z; omega) hw.ph rfl (Nat.le_of_ble_eq_true rfl) (c_writtenOf hw) (fun r h1 q => ?_)
  obtain ⟨rfl, e9⟩ := q; have e9 := e9.symm; subst e9
  change mi_W pP X kX8_many 1 0 0 104 [(0, .ref B), (1, .int 4)] [.int (ph_wo q.2.1 2 240), .int ((ph_wo q.2.1 0 240) + (ph_wo q.2.1 1 240))] h _
  refine mi_blk okX8_many 1 (pc' := 105) (lv' := [(0, .ref B), (1, .int 4)]) (st' := [.int (((ph_wo q.2.1 0 240) + (ph_wo q.2.1 1 240)) + (ph_wo q.2.1 2 240))]) rfl ?_
  exact mi_ret_i okX8_many rfl rfl rfl ⟨rfl, rfl⟩
set_option maxHeartbeats 4000000 in
set_option maxRecDepth 100000 in
theorem c_many_5 {X : mi_X} {h : mi_H} {B : Nat} {q : ph_T} {fi le : Nat → Nat → Int32} (hw : ph_W B q fi le h) : mi_S pP X kX8_many 1 [.ref B, .int 5] h 0 0 (fun r h1 => r = some (.int (ph_wo q.2.1 0 240)) ∧ h1 = h) := by
  refine enX8_many (Nat.le_of_ble_eq_true rfl) ?_
  refine mi_blk okX8_many 1 (pc' := 1) (lv' := [(0, .ref B), (1, .int 5)]) (st' := [.int 5]) rfl ?_
  refine mi_swin swX8_many_1 (x := 5) (by decide) (by decide) rfl rfl ?_
  refine mi_blk okX8_many 2 (pc' := 108) (lv' := [(0, .ref B), (1, .int 5)]) (st' := [.int 0, .ref B]) rfl ?_
  refine mi_callV okX8_many (mc := 0) (ms := 0) (mc' := 0) (ms' := 0) (b := B) (As := [.int 0]) (st := []) rfl cv_RX8_295 rfl (by decide) (show 6 ≤ _ by have := hw.z; omega) (show _ < h.1 by have := hw.z; omega) hw.ph rfl (Nat.le_of_ble_eq_true rfl) (c_writtenOf hw) (fun r h1 q => ?_)
  obtain ⟨rfl, e9⟩ := q; have e9 := e9.symm; subst e9
  change mi_W pP X kX8_many 1 0 0 111 [(0, .ref B), (1, .int 5)] [.int (ph_wo q.2.1 0 240)] h _
  exact mi_ret_i okX8_many rfl rfl rfl ⟨rfl, rfl⟩
set_option maxHeartbeats 4000000 in
set_option maxRecDepth 100000 in
theorem c_many_6 {X : mi_X} {h : mi_H} {B : Nat} {q : ph_T} {fi le : Nat → Nat → Int32} (hw : ph_W B q fi le h) : mi_S pP X kX8_many 1 [.ref B, .int 6] h 0 0 (fun r h1 => r = some (.int (ph_wo q.2.1 1 240)) ∧ h1 = h) := by
  refine enX8_many (Nat.le_of_ble_eq_true rfl) ?_
  refine mi_blk okX8_many 1 (pc' := 1) (lv' := [(0, .ref B), (1, .int 6)]) (st' := [.int 6]) rfl ?_
  refine mi_swin swX8_many_1 (x := 6) (by decide) (by decide) rfl rfl ?_
  refine mi_blk okX8_many 2 (pc' := 114) (lv' := [(0, .ref B), (1, .int 6)]) (st' := [.int 1, .ref B]) rfl ?_
  refine mi_callV okX8_many (mc := 0) (ms := 0) (mc' := 0) (ms' := 0) (b := B) (As := [.int 1]) (st := []) rfl cv_RX8_295 rfl (by decide) (show 6 ≤ _ by have := hw.z; omega) (show _ < h.1 by have := hw.z; omega) hw.ph rfl (Nat.le_of_ble_eq_true rfl) (c_writtenOf hw) (fun r h1 q => ?_)
  obtain ⟨rfl, e9⟩ := q; have e9 := e9.symm; subst e9
  change mi_W pP X kX8_many 1 0 0 117 [(0, .ref B), (1, .int 6)] [.int (ph_wo q.2.1 1 240)] h _
  exact mi_ret_i okX8_many rfl rfl rfl ⟨rfl, rfl⟩
set_option maxHeartbeats 4000000 in
set_option maxRecDepth 100000 in
theorem c_many_7 {X : mi_X} {h : mi_H} {B : Nat} {q : ph_T} {fi le : Nat → Nat → Int32} (hw : ph_W B q fi le h) : mi_S pP X kX8_many 1 [.ref B, .int 7] h 0 0 (fun r h1 => r = some (.int (ph_wo q.2.1 2 240)) ∧ h1 = h) := by
  refine enX8_many (Nat.le_of_ble_eq_true rfl) ?_
  refine mi_blk okX8_many 1 (pc' := 1) (lv' := [(0, .ref B), (1, .int 7)]) (st' := [.int 7]) rfl ?_
  refine mi_swin swX8_many_1 (x := 7) (by decide) (by decide) rfl rfl ?_
  refine mi_blk okX8_many 2 (pc' := 120) (lv' := [(0, .ref B), (1, .int 7)]) (st' := [.int 2, .ref B]) rfl ?_
  refine mi_callV okX8_many (mc := 0) (ms := 0) (mc' := 0) (ms' := 0) (b := B) (As := [.int 2]) (st := []) rfl cv_RX8_295 rfl (by decide) (show 6 ≤ _ by have := hw.z; omega) (show _ < h.1 by have := hw.z; omega) hw.ph rfl (Nat.le_of_ble_eq_true rfl) (c_writtenOf hw) (fun r h1 q => ?_)
  obtain ⟨rfl, e9⟩ := q; have e9 := e9.symm; subst e9
  change mi_W pP X kX8_many 1 0 0 123 [(0, .ref B), (1, .int 7)] [.int (ph_wo q.2.1 2 240)] h _
  exact mi_ret_i okX8_many rfl rfl rfl ⟨rfl, rfl⟩
set_option maxHeartbeats 4000000 in
set_option maxRecDepth 100000 in
theorem c_many_8 {X : mi_X} {h : mi_H} {B : Nat} {q : ph_T} {fi le : Nat → Nat → Int32} (hw : ph_W B q fi le h) : mi_S pP X kX8_many 1 [.ref B, .int 8] h 0 0 (fun r h1 => r = some (.int (nI q.2.2.2.2.1.1)) ∧ h1 = h) := by
  refine enX8_many (Nat.le_of_ble_eq_true rfl) ?_
  refine mi_blk okX8_many 1 (pc' := 1) (lv' := [(0, .ref B), (1, .int 8)]) (st' := [.int 8]) rfl ?_
  refine mi_swin swX8_many_1 (x := 8) (by decide) (by decide) rfl rfl ?_
  refine mi_blk okX8_many 1 (pc' := 125) (lv' := [(0, .ref B), (1, .int 8)]) (st' := [.ref B]) rfl ?_
  refine mi_getf okX8_many rfl fg_RX8_31 (show 6 ≤ _ by have := hw.z; omega) (show _ < h.1 by have := hw.z; omega) hw.ph (v := .ref (B + 26)) rfl ?_
  refine mi_getf okX8_many rfl fg_RX8_199 (show 6 ≤ _ by have := hw.z; omega) (show _ < h.1 by have := hw.z; omega) hw.dr (v := .int (nI q.2.2.2.2.1.1)) rfl ?_
  exact mi_ret_i okX8_many rfl rfl rfl ⟨rfl, rfl⟩
set_option maxHeartbeats 4000000 in
set_option maxRecDepth 100000 in
theorem c_many_9 {X : mi_X} {h : mi_H} {B : Nat} {q : ph_T} {fi le : Nat → Nat → Int32} (hw : ph_W B q fi le h) : mi_S pP X kX8_many 1 [.ref B, .int 9] h 0 0 (fun r h1 => r = some (.int q.2.2.2.2.1.2.2.1) ∧ h1 = h) := by
  refine enX8_many (Nat.le_of_ble_eq_true rfl) ?_
  refine mi_blk okX8_many 1 (pc' := 1) (lv' := [(0, .ref B), (1, .int 9)]) (st' := [.int 9]) rfl ?_
  refine mi_swin swX8_many_1 (x := 9) (by decide) (by decide) rfl rfl ?_
  refine mi_blk okX8_many 1 (pc' := 133) (lv' := [(0, .ref B), (1, .int 9)]) (st' := [.ref B]) rfl ?_
  refine mi_getf okX8_many rfl fg_RX8_31 (show 6 ≤ _ by have := hw.z; omega) (show _ < h.1 by have := hw.z; omega) hw.ph (v := .ref (B + 26)) rfl ?_
  refine mi_getf okX8_many rfl fg_RX8_298 (show 6 ≤ _ by have := hw.z; omega) (show _ < h.1 by have := hw.z; omega) hw.dr (v := .int q.2.2.2.2.1.2.2.1) rfl ?_
  exact mi_ret_i okX8_many rfl rfl rfl ⟨rfl, rfl⟩
set_option maxHeartbeats 4000000 in
set_option maxRecDepth 100000 in
theorem c_many_10 {X : mi_X} {h : mi_H} {B : Nat} {q : ph_T} {fi le : Nat → Nat → Int32} (hw : ph_W B q fi le h) : mi_S pP X kX8_many 1 [.ref B, .int 10] h 0 0 (fun r h1 => r = some (.int (if q.1.2.2.2.2 = 0 then 0 else 1)) ∧ h1 = h) := by
  refine enX8_many (Nat.le_of_ble_eq_true rfl) ?_
  refine mi_blk okX8_many 1 (pc' := 1) (lv' := [(0, .ref B), (1, .int 10)]) (st' := [.int 10]) rfl ?_
  refine mi_swin swX8_many_1 (x := 10) (by decide) (by decide) rfl rfl ?_
  refine mi_blk okX8_many 1 (pc' := 141) (lv' := [(0, .ref B), (1, .int 10)]) (st' := [.ref B]) rfl ?_
  refine mi_getf okX8_many rfl fg_RX8_55 (show 6 ≤ _ by have := hw.z; omega) (show _ < h.1 by have := hw.z; omega) hw.ph (v := .int q.1.2.2.2.2) rfl ?_
  refine mi_if_eq okX8_many rfl rfl (fun c_144 => ?_) (fun c_144 => ?_)
  · refine mi_blk okX8_many 1 (pc' := 152) (lv' := [(0, .ref B), (1, .int 10)]) (st' := [.int 0]) rfl ?_
    exact mi_ret_i okX8_many rfl rfl rfl ⟨by rw [if_pos c_144], rfl⟩
  · refine mi_blk okX8_many 2 (pc' := 152) (lv' := [(0, .ref B), (1, .int 10)]) (st' := [.int 1]) rfl ?_
    exact mi_ret_i okX8_many rfl rfl rfl ⟨by rw [if_neg c_144], rfl⟩
set_option maxHeartbeats 4000000 in
set_option maxRecDepth 100000 in
theorem c_many_11 {X : mi_X} {h : mi_H} {B : Nat} {q : ph_T} {fi le : Nat → Nat → Int32} (hw : ph_W B q fi le h) : mi_S pP X kX8_many 1 [.ref B, .int 11] h 0 0 (fun r h1 => r = some (.int q.2.2.2.2.1.2.2.2.2) ∧ h1 = h) := by
  refine enX8_many (Nat.le_of_ble_eq_true rfl) ?_
  refine mi_blk okX8_many 1 (pc' := 1) (lv' := [(0, .ref B), (1, .int 11)]) (st' := [.int 11]) rfl ?_
  refine mi_swin swX8_many_1 (x := 11) (by decide) (by decide) rfl rfl ?_
  refine mi_blk okX8_many 1 (pc' := 154) (lv' := [(0, .ref B), (1, .int 11)]) (st' := [.ref B]) rfl ?_
  refine mi_getf okX8_many rfl fg_RX8_31 (show 6 ≤ _ by have := hw.z; omega) (show _ < h.1 by have := hw.z; omega) hw.ph (v := .ref (B + 26)) rfl ?_
  refine mi_getf okX8_many rfl fg_RX8_185 (show 6 ≤ _ by have := hw.z; omega) (show _ < h.1 by have := hw.z; omega) hw.dr (v := .int q.2.2.2.2.1.2.2.2.2) rfl ?_
  exact mi_ret_i okX8_many rfl rfl rfl ⟨rfl, rfl⟩
set_option maxHeartbeats 4000000 in
set_option maxRecDepth 100000 in
theorem c_many_12 {X : mi_X} {h : mi_H} {B : Nat} {q : ph_T} {fi le : Nat → Nat → Int32} (hw : ph_W B q fi le h) : mi_S pP X kX8_many 1 [.ref B, .int 12] h 0 0 (fun r h1 => r = some (.int (if q.2.2.2.2.1.2.2.2.1 = 0 then 0 else 1)) ∧ h1 = h) := by
  refine enX8_many (Nat.le_of_ble_eq_true rfl) ?_
  refine mi_blk okX8_many 1 (pc' := 1) (lv' := [(0, .ref B), (1, .int 12)]) (st' := [.int 12]) rfl ?_
  refine mi_swin swX8_many_1 (x := 12) (by decide) (by decide) rfl rfl ?_
  refine mi_blk okX8_many 1 (pc' := 162) (lv' := [(0, .ref B), (1, .int 12)]) (st' := [.ref B]) rfl ?_
  refine mi_getf okX8_many rfl fg_RX8_31 (show 6 ≤ _ by have := hw.z; omega) (show _ < h.1 by have := hw.z; omega) hw.ph (v := .ref (B + 26)) rfl ?_
  refine mi_getf okX8_many rfl fg_RX8_182 (show 6 ≤ _ by have := hw.z; omega) (show _ < h.1 by have := hw.z; omega) hw.dr (v := .int q.2.2.2.2.1.2.2.2.1) rfl ?_
  refine mi_if_eq okX8_many rfl rfl (fun c_168 => ?_) (fun c_168 => ?_)
  · refine mi_blk okX8_many 1 (pc' := 176) (lv' := [(0, .ref B), (1, .int 12)]) (st' := [.int 0]) rfl ?_
    exact mi_ret_i okX8_many rfl rfl rfl ⟨by rw [if_pos c_168], rfl⟩
  · refine mi_blk okX8_many 2 (pc' := 176) (lv' := [(0, .ref B), (1, .int 12)]) (st' := [.int 1]) rfl ?_
    exact mi_ret_i okX8_many rfl rfl rfl ⟨by rw [if_neg c_168], rfl⟩
set_option maxHeartbeats 4000000 in
set_option maxRecDepth 100000 in
theorem c_ofTrack_0 {X : mi_X} {h : mi_H} {B : Nat} {q : ph_T} {fi le : Nat → Nat → Int32} (hw : ph_W B q fi le h) {t : Nat} (ht : t < 8) (htc : nI t < q.1.2.1) : mi_S pP X kX8_ofTrack 3 [.ref B, .int (nI t), .int 0] h 0 0 (fun r h1 => r = some (.int (q.2.2.2.1 t).1) ∧ h1 = h) := by
  refine enX8_ofTrack (Nat.le_of_ble_eq_true rfl) ?_
  refine mi_blk okX8_ofTrack 2 (pc' := 2) (lv' := [(0, .ref B), (1, .int (nI t)), (2, .int 0)]) (st' := [.int (nI t), .ref B]) rfl ?_
  refine mi_callV okX8_ofTrack (mc := 0) (ms := 0) (mc' := 0) (ms' := 0) (b := B) (As := [.int (nI t)]) (st := []) rfl cv_RX8_91 rfl (by decide) (show 6 ≤ _ by have := hw.z; omega) (show _ < h.1 by have := hw.z; omega) hw.ph rfl (Nat.le_of_ble_eq_true rfl) (c_trackAt hw ht htc) (fun r h1 q => ?_)
  obtain ⟨rfl, e9⟩ := q; have e9 := e9.symm; subst e9
  change mi_W pP X kX8_ofTrack 3 0 0 5 [(0, .ref B), (1, .int (nI t)), (2, .int 0)] [.ref (B + 510 + t)] h _
  refine mi_blk okX8_ofTrack 2 (pc' := 7) (lv' := [(3, .ref (B + 510 + t)), (0, .ref B), (1, .int (nI t)), (2, .int 0)]) (st' := [.int 0]) rfl ?_
  refine mi_swin swX8_ofTrack_7 (x := 0) (by decide) (by decide) rfl rfl ?_
  refine mi_blk okX8_ofTrack 1 (pc' := 53) (lv' := [(3, .ref (B + 510 + t)), (0, .ref B), (1, .int (nI t)), (2, .int 0)]) (st' := [.ref (B + 510 + t)]) rfl ?_
  refine mi_getf okX8_ofTrack rfl fg_RX8_257 (show 6 ≤ _ by have := hw.z; omega) (show _ < h.1 by have := hw.z; omega) (hw.tr t ht) (v := .int ((q.2.2.2.1 t).1)) rfl ?_
  exact mi_ret_i okX8_ofTrack rfl rfl rfl ⟨rfl, rfl⟩
set_option maxHeartbeats 4000000 in
set_option maxRecDepth 100000 in
theorem c_ofTrack_1 {X : mi_X} {h : mi_H} {B : Nat} {q : ph_T} {fi le : Nat → Nat → Int32} (hw : ph_W B q fi le h) {t : Nat} (ht : t < 8) (htc : nI t < q.1.2.1) : mi_S pP X kX8_ofTrack 3 [.ref B, .int (nI t), .int 1] h 0 0 (fun r h1 => r = some (.int (q.2.2.2.1 t).2.1) ∧ h1 = h) := by
  refine enX8_ofTrack (Nat.le_of_ble_eq_true rfl) ?_
  refine mi_blk okX8_ofTrack 2 (pc' := 2) (lv' := [(0, .ref B), (1, .int (nI t)), (2, .int 1)]) (st' := [.int (nI t), .ref B]) rfl ?_
  refine mi_callV okX8_ofTrack (mc := 0) (ms := 0) (mc' := 0) (ms' := 0) (b := B) (As := [.int (nI t)]) (st := []) rfl cv_RX8_91 rfl (by decide) (show 6 ≤ _ by have := hw.z; omega) (show _ < h.1 by have := hw.z; omega) hw.ph rfl (Nat.le_of_ble_eq_true rfl) (c_trackAt hw ht htc) (fun r h1 q => ?_)
  obtain ⟨rfl, e9⟩ := q; have e9 := e9.symm; subst e9
  change mi_W pP X kX8_ofTrack 3 0 0 5 [(0, .ref B), (1, .int (nI t)), (2, .int 1)] [.ref (B + 510 + t)] h _
  refine mi_blk okX8_ofTrack 2 (pc' := 7) (lv' := [(3, .ref (B + 510 + t)), (0, .ref B), (1, .int (nI t)), (2, .int 1)]) (st' := [.int 1]) rfl ?_
  refine mi_swin swX8_ofTrack_7 (x := 1) (by decide) (by decide) rfl rfl ?_
  refine mi_blk okX8_ofTrack 1 (pc' := 58) (lv' := [(3, .ref (B + 510 + t)), (0, .ref B), (1, .int (nI t)), (2, .int 1)]) (st' := [.ref (B + 510 + t)]) rfl ?_
  refine mi_getf okX8_ofTrack rfl fg_RX8_108 (show 6 ≤ _ by have := hw.z; omega) (show _ < h.1 by have := hw.z; omega) (hw.tr t ht) (v := .int ((q.2.2.2.1 t).2.1)) rfl ?_
  exact mi_ret_i okX8_ofTrack rfl rfl rfl ⟨rfl, rfl⟩
set_option maxHeartbeats 4000000 in
set_option maxRecDepth 100000 in
theorem c_ofTrack_2 {X : mi_X} {h : mi_H} {B : Nat} {q : ph_T} {fi le : Nat → Nat → Int32} (hw : ph_W B q fi le h) {t : Nat} (ht : t < 8) (htc : nI t < q.1.2.1) : mi_S pP X kX8_ofTrack 3 [.ref B, .int (nI t), .int 2] h 0 0 (fun r h1 => r = some (.int (q.2.2.2.1 t).2.2.1) ∧ h1 = h) := by
  refine enX8_ofTrack (Nat.le_of_ble_eq_true rfl) ?_
  refine mi_blk okX8_ofTrack 2 (pc' := 2) (lv' := [(0, .ref B), (1, .int (nI t)), (2, .int 2)]) (st' := [.int (nI t), .ref B]) rfl ?_
  refine mi_callV okX8_ofTrack (mc := 0) (ms := 0) (mc' := 0) (ms' := 0) (b := B) (As := [.int (nI t)]) (st := []) rfl cv_RX8_91 rfl (by decide) (show 6 ≤ _ by have := hw.z; omega) (show _ < h.1 by have := hw.z; omega) hw.ph rfl (Nat.le_of_ble_eq_true rfl) (c_trackAt hw ht htc) (fun r h1 q => ?_)
  obtain ⟨rfl, e9⟩ := q; have e9 := e9.symm; subst e9
  change mi_W pP X kX8_ofTrack 3 0 0 5 [(0, .ref B), (1, .int (nI t)), (2, .int 2)] [.ref (B + 510 + t)] h _
  refine mi_blk okX8_ofTrack 2 (pc' := 7) (lv' := [(3, .ref (B + 510 + t)), (0, .ref B), (1, .int (nI t)), (2, .int 2)]) (st' := [.int 2]) rfl ?_
  refine mi_swin swX8_ofTrack_7 (x := 2) (by decide) (by decide) rfl rfl ?_
  refine mi_blk okX8_ofTrack 1 (pc' := 63) (lv' := [(3, .ref (B + 510 + t)), (0, .ref B), (1, .int (nI t)), (2, .int 2)]) (st' := [.ref (B + 510 + t)]) rfl ?_
  refine mi_getf okX8_ofTrack rfl fg_RX8_88 (show 6 ≤ _ by have := hw.z; omega) (show _ < h.1 by have := hw.z; omega) (hw.tr t ht) (v := .int ((q.2.2.2.1 t).2.2.1)) rfl ?_
  exact mi_ret_i okX8_ofTrack rfl rfl rfl ⟨rfl, rfl⟩
set_option maxHeartbeats 4000000 in
set_option maxRecDepth 100000 in
theorem c_ofTrack_3 {X : mi_X} {h : mi_H} {B : Nat} {q : ph_T} {fi le : Nat → Nat → Int32} (hw : ph_W B q fi le h) {t : Nat} (ht : t < 8) (htc : nI t < q.1.2.1) : mi_S pP X kX8_ofTrack 3 [.ref B, .int (nI t), .int 3] h 0 0 (fun r h1 => r = some (.int (q.2.2.2.1 t).2.2.2.1) ∧ h1 = h) := by
  refine enX8_ofTrack (Nat.le_of_ble_eq_true rfl) ?_
  refine mi_blk okX8_ofTrack 2 (pc' := 2) (lv' := [(0, .ref B), (1, .int (nI t)), (2, .int 3)]) (st' := [.int (nI t), .ref B]) rfl ?_
  refine mi_callV okX8_ofTrack (mc := 0) (ms := 0) (mc' := 0) (ms' := 0) (b := B) (As := [.int (nI t)]) (st := []) rfl cv_RX8_91 rfl (by decide) (show 6 ≤ _ by have := hw.z; omega) (show _ < h.1 by have := hw.z; omega) hw.ph rfl (Nat.le_of_ble_eq_true rfl) (c_trackAt hw ht htc) (fun r h1 q => ?_)
  obtain ⟨rfl, e9⟩ := q; have e9 := e9.symm; subst e9
  change mi_W pP X kX8_ofTrack 3 0 0 5 [(0, .ref B), (1, .int (nI t)), (2, .int 3)] [.ref (B + 510 + t)] h _
  refine mi_blk okX8_ofTrack 2 (pc' := 7) (lv' := [(3, .ref (B + 510 + t)), (0, .ref B), (1, .int (nI t)), (2, .int 3)]) (st' := [.int 3]) rfl ?_
  refine mi_swin swX8_ofTrack_7 (x := 3) (by decide) (by decide) rfl rfl ?_
  refine mi_blk okX8_ofTrack 1 (pc' := 68) (lv' := [(3, .ref (B + 510 + t)), (0, .ref B), (1, .int (nI t)), (2, .int 3)]) (st' := [.ref (B + 510 + t)]) rfl ?_
  refine mi_getf okX8_ofTrack rfl fg_RX8_260 (show 6 ≤ _ by have := hw.z; omega) (show _ < h.1 by have := hw.z; omega) (hw.tr t ht) (v := .int ((q.2.2.2.1 t).2.2.2.1)) rfl ?_
  exact mi_ret_i okX8_ofTrack rfl rfl rfl ⟨rfl, rfl⟩
set_option maxHeartbeats 4000000 in
set_option maxRecDepth 100000 in
theorem c_ofTrack_4 {X : mi_X} {h : mi_H} {B : Nat} {q : ph_T} {fi le : Nat → Nat → Int32} (hw : ph_W B q fi le h) {t : Nat} (ht : t < 8) (htc : nI t < q.1.2.1) : mi_S pP X kX8_ofTrack 3 [.ref B, .int (nI t), .int 4] h 0 0 (fun r h1 => r = some (.int ((q.2.2.2.1 t).2.2.2.2.1 - (q.2.2.2.1 t).2.2.2.2.2.1)) ∧ h1 = h) := by
  refine enX8_ofTrack (Nat.le_of_ble_eq_true rfl) ?_
  refine mi_blk okX8_ofTrack 2 (pc' := 2) (lv' := [(0, .ref B), (1, .int (nI t)), (2, .int 4)]) (st' := [.int (nI t), .ref B]) rfl ?_
  refine mi_callV okX8_ofTrack (mc := 0) (ms := 0) (mc' := 0) (ms' := 0) (b := B) (As := [.int (nI t)]) (st := []) rfl cv_RX8_91 rfl (by decide) (show 6 ≤ _ by have := hw.z; omega) (show _ < h.1 by have := hw.z; omega) hw.ph rfl (Nat.le_of_ble_eq_true rfl) (c_trackAt hw ht htc) (fun r h1 q => ?_)
  obtain ⟨rfl, e9⟩ := q; have e9 := e9.symm; subst e9
  change mi_W pP X kX8_ofTrack 3 0 0 5 [(0, .ref B), (1, .int (nI t)), (2, .int 4)] [.ref (B + 510 + t)] h _
  refine mi_blk okX8_ofTrack 2 (pc' := 7) (lv' := [(3, .ref (B + 510 + t)), (0, .ref B), (1, .int (nI t)), (2, .int 4)]) (st' := [.int 4]) rfl ?_
  refine mi_swin swX8_ofTrack_7 (x := 4) (by decide) (by decide) rfl rfl ?_
  refine mi_blk okX8_ofTrack 1 (pc' := 73) (lv' := [(3, .ref (B + 510 + t)), (0, .ref B), (1, .int (nI t)), (2, .int 4)]) (st' := [.ref (B + 510 + t)]) rfl ?_
  refine mi_getf okX8_ofTrack rfl fg_RX8_263 (show 6 ≤ _ by have := hw.z; omega) (show _ < h.1 by have := hw.z; omega) (hw.tr t ht) (v := .int ((q.2.2.2.1 t).2.2.2.2.1)) rfl ?_
  refine mi_blk okX8_ofTrack 1 (pc' := 77) (lv' := [(3, .ref (B + 510 + t)), (0, .ref B), (1, .int (nI t)), (2, .int 4)]) (st' := [.ref (B + 510 + t), .int ((q.2.2.2.1 t).2.2.2.2.1)]) rfl ?_
  refine mi_getf okX8_ofTrack rfl fg_RX8_117 (show 6 ≤ _ by have := hw.z; omega) (show _ < h.1 by have := hw.z; omega) (hw.tr t ht) (v := .int ((q.2.2.2.1 t).2.2.2.2.2.1)) rfl ?_
  refine mi_blk okX8_ofTrack 1 (pc' := 81) (lv' := [(3, .ref (B + 510 + t)), (0, .ref B), (1, .int (nI t)), (2, .int 4)]) (st' := [.int (((q.2.2.2.1 t).2.2.2.2.1) - ((q.2.2.2.1 t).2.2.2.2.2.1))]) rfl ?_
  exact mi_ret_i okX8_ofTrack rfl rfl rfl ⟨rfl, rfl⟩
set_option maxHeartbeats 4000000 in
set_option maxRecDepth 100000 in
theorem c_ofTrack_5 {X : mi_X} {h : mi_H} {B : Nat} {q : ph_T} {fi le : Nat → Nat → Int32} (hw : ph_W B q fi le h) {t : Nat} (ht : t < 8) (htc : nI t < q.1.2.1) : mi_S pP X kX8_ofTrack 3 [.ref B, .int (nI t), .int 5] h 0 0 (fun r h1 => r = some (.int (q.2.2.2.1 t).2.2.2.2.2.1) ∧ h1 = h) := by
  refine enX8_ofTrack (Nat.le_of_ble_eq_true rfl) ?_
  refine mi_blk okX8_ofTrack 2 (pc' := 2) (lv' := [(0, .ref B), (1, .int (nI t)), (2, .int 5)]) (st' := [.int (nI t), .ref B]) rfl ?_
  refine mi_callV okX8_ofTrack (mc := 0) (ms := 0) (mc' := 0) (ms' := 0) (b := B) (As := [.int (nI t)]) (st := []) rfl cv_RX8_91 rfl (by decide) (show 6 ≤ _ by have := hw.z; omega) (show _ < h.1 by have := hw.z; omega) hw.ph rfl (Nat.le_of_ble_eq_true rfl) (c_trackAt hw ht htc) (fun r h1 q => ?_)
  obtain ⟨rfl, e9⟩ := q; have e9 := e9.symm; subst e9
  change mi_W pP X kX8_ofTrack 3 0 0 5 [(0, .ref B), (1, .int (nI t)), (2, .int 5)] [.ref (B + 510 + t)] h _
  refine mi_blk okX8_ofTrack 2 (pc' := 7) (lv' := [(3, .ref (B + 510 + t)), (0, .ref B), (1, .int (nI t)), (2, .int 5)]) (st' := [.int 5]) rfl ?_
  refine mi_swin swX8_ofTrack_7 (x := 5) (by decide) (by decide) rfl rfl ?_
  refine mi_blk okX8_ofTrack 1 (pc' := 83) (lv' := [(3, .ref (B + 510 + t)), (0, .ref B), (1, .int (nI t)), (2, .int 5)]) (st' := [.ref (B + 510 + t)]) rfl ?_
  refine mi_getf okX8_ofTrack rfl fg_RX8_117 (show 6 ≤ _ by have := hw.z; omega) (show _ < h.1 by have := hw.z; omega) (hw.tr t ht) (v := .int ((q.2.2.2.1 t).2.2.2.2.2.1)) rfl ?_
  exact mi_ret_i okX8_ofTrack rfl rfl rfl ⟨rfl, rfl⟩
set_option maxHeartbeats 4000000 in
set_option maxRecDepth 100000 in
theorem c_ofTrack_6 {X : mi_X} {h : mi_H} {B : Nat} {q : ph_T} {fi le : Nat → Nat → Int32} (hw : ph_W B q fi le h) {t : Nat} (ht : t < 8) (htc : nI t < q.1.2.1) : mi_S pP X kX8_ofTrack 3 [.ref B, .int (nI t), .int 6] h 0 0 (fun r h1 => r = some (.int (if (q.2.2.2.1 t).2.2.2.2.2.2 = 0 then 0 else 1)) ∧ h1 = h) := by
  refine enX8_ofTrack (Nat.le_of_ble_eq_true rfl) ?_
  refine mi_blk okX8_ofTrack 2 (pc' := 2) (lv' := [(0, .ref B), (1, .int (nI t)), (2, .int 6)]) (st' := [.int (nI t), .ref B]) rfl ?_
  refine mi_callV okX8_ofTrack (mc := 0) (ms := 0) (mc' := 0) (ms' := 0) (b := B) (As := [.int (nI t)]) (st := []) rfl cv_RX8_91 rfl (by decide) (show 6 ≤ _ by have := hw.z; omega) (show _ < h.1 by have := hw.z; omega) hw.ph rfl (Nat.le_of_ble_eq_true rfl) (c_trackAt hw ht htc) (fun r h1 q => ?_)
  obtain ⟨rfl, e9⟩ := q; have e9 := e9.symm; subst e9
  change mi_W pP X kX8_ofTrack 3 0 0 5 [(0, .ref B), (1, .int (nI t)), (2, .int 6)] [.ref (B + 510 + t)] h _
  refine mi_blk okX8_ofTrack 2 (pc' := 7) (lv' := [(3, .ref (B + 510 + t)), (0, .ref B), (1, .int (nI t)), (2, .int 6)]) (st' := [.int 6]) rfl ?_
  refine mi_swin swX8_ofTrack_7 (x := 6) (by decide) (by decide) rfl rfl ?_
  refine mi_blk okX8_ofTrack 1 (pc' := 88) (lv' := [(3, .ref (B + 510 + t)), (0, .ref B), (1, .int (nI t)), (2, .int 6)]) (st' := [.ref (B + 510 + t)]) rfl ?_
  refine mi_getf okX8_ofTrack rfl fg_RX8_120 (show 6 ≤ _ by have := hw.z; omega) (show _ < h.1 by have := hw.z; omega) (hw.tr t ht) (v := .int ((q.2.2.2.1 t).2.2.2.2.2.2)) rfl ?_
  refine mi_if_eq okX8_ofTrack rfl rfl (fun c_91 => ?_) (fun c_91 => ?_)
  · refine mi_blk okX8_ofTrack 1 (pc' := 99) (lv' := [(3, .ref (B + 510 + t)), (0, .ref B), (1, .int (nI t)), (2, .int 6)]) (st' := [.int 0]) rfl ?_
    exact mi_ret_i okX8_ofTrack rfl rfl rfl ⟨by rw [if_pos c_91], rfl⟩
  · refine mi_blk okX8_ofTrack 2 (pc' := 99) (lv' := [(3, .ref (B + 510 + t)), (0, .ref B), (1, .int (nI t)), (2, .int 6)]) (st' := [.int 1]) rfl ?_
    exact mi_ret_i okX8_ofTrack rfl rfl rfl ⟨by rw [if_neg c_91], rfl⟩
set_option maxHeartbeats 4000000 in
set_option maxRecDepth 100000 in
theorem c_ofTrack_7 {X : mi_X} {h : mi_H} {B : Nat} {q : ph_T} {fi le : Nat → Nat → Int32} (hw : ph_W B q fi le h) {t : Nat} (ht : t < 8) (htc : nI t < q.1.2.1) {f g : Nat} (hg : f + g ≤ 240) (hf : (q.2.2.2.1 t).2.2.1 = nI f) (hh : (q.2.2.2.1 t).2.2.2.1 = nI g) : mi_S pP X kX8_ofTrack 3 [.ref B, .int (nI t), .int 7] h 0 0 (fun r h1 => r = some (.int (ph_gd q.2.1 f g)) ∧ h1 = h) := by
  refine enX8_ofTrack (Nat.le_of_ble_eq_true rfl) ?_
  refine mi_blk okX8_ofTrack 2 (pc' := 2) (lv' := [(0, .ref B), (1, .int (nI t)), (2, .int 7)]) (st' := [.int (nI t), .ref B]) rfl ?_
  refine mi_callV okX8_ofTrack (mc := 0) (ms := 0) (mc' := 0) (ms' := 0) (b := B) (As := [.int (nI t)]) (st := []) rfl cv_RX8_91 rfl (by decide) (show 6 ≤ _ by have := hw.z; omega) (show _ < h.1 by have := hw.z; omega) hw.ph rfl (Nat.le_of_ble_eq_true rfl) (c_trackAt hw ht htc) (fun r h1 q => ?_)
  obtain ⟨rfl, e9⟩ := q; have e9 := e9.symm; subst e9
  change mi_W pP X kX8_ofTrack 3 0 0 5 [(0, .ref B), (1, .int (nI t)), (2, .int 7)] [.ref (B + 510 + t)] h _
  refine mi_blk okX8_ofTrack 2 (pc' := 7) (lv' := [(3, .ref (B + 510 + t)), (0, .ref B), (1, .int (nI t)), (2, .int 7)]) (st' := [.int 7]) rfl ?_
  refine mi_swin swX8_ofTrack_7 (x := 7) (by decide) (by decide) rfl rfl ?_
  refine mi_blk okX8_ofTrack 2 (pc' := 102) (lv' := [(3, .ref (B + 510 + t)), (0, .ref B), (1, .int (nI t)), (2, .int 7)]) (st' := [.ref (B + 510 + t), .ref B]) rfl ?_
  refine mi_getf okX8_ofTrack rfl fg_RX8_88 (show 6 ≤ _ by have := hw.z; omega) (show _ < h.1 by have := hw.z; omega) (hw.tr t ht) (v := .int ((q.2.2.2.1 t).2.2.1)) rfl ?_
  refine mi_blk okX8_ofTrack 1 (pc' := 106) (lv' := [(3, .ref (B + 510 + t)), (0, .ref B), (1, .int (nI t)), (2, .int 7)]) (st' := [.ref (B + 510 + t), .int ((q.2.2.2.1 t).2.2.1), .ref B]) rfl ?_
  refine mi_getf okX8_ofTrack rfl fg_RX8_260 (show 6 ≤ _ by have := hw.z; omega) (show _ < h.1 by have := hw.z; omega) (hw.tr t ht) (v := .int ((q.2.2.2.1 t).2.2.2.1)) rfl ?_
  refine mi_callV okX8_ofTrack (mc := 0) (ms := 0) (mc' := 0) (ms' := 0) (b := B) (As := [.int ((q.2.2.2.1 t).2.2.1), .int ((q.2.2.2.1 t).2.2.2.1)]) (st := []) rfl cv_RX8_266 rfl (by decide) (show 6 ≤ _ by have := hw.z; omega) (show _ < h.1 by have := hw.z; omega) hw.ph rfl (Nat.le_of_ble_eq_true rfl) (show mi_S pP X kX8_goodFrom 2 [.ref B, .int (q.2.2.2.1 t).2.2.1, .int (q.2.2.2.1 t).2.2.2.1] h 0 0 (fun r h1 => r = some (.int (ph_gd q.2.1 f g)) ∧ h1 = h) by rw [hf, hh]; exact c_goodFrom hw hg) (fun r h1 q => ?_)
  obtain ⟨rfl, e9⟩ := q; have e9 := e9.symm; subst e9
  change mi_W pP X kX8_ofTrack 3 0 0 112 [(3, .ref (B + 510 + t)), (0, .ref B), (1, .int (nI t)), (2, .int 7)] [.int (ph_gd q.2.1 f g)] h _
  exact mi_ret_i okX8_ofTrack rfl rfl rfl ⟨rfl, rfl⟩
