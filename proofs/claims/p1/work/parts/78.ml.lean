-- loops over nothing
set_option maxHeartbeats 4000000 in
set_option maxRecDepth 100000 in
theorem m_ofTrack {X : mi_X} {h : mi_H} {M : Nat} (hw : mo_W M h) (hc : h.2 M = mo_c M 0 mo_0) {x y : Int32} : mi_S pP X kX9_ofTrack 2 [.ref M, .int x, .int y] h 0 0 (fun r h1 => r = some (.int 0) ∧ mp M h 1 h1) := by
  refine enX9_ofTrack (Nat.le_of_ble_eq_true rfl) ?_
  refine mi_blk okX9_ofTrack 3 (pc' := 3) (lv' := [(0, .ref M), (1, .int x), (2, .int y)]) (st' := [.int x, .ref M, .ref M]) rfl ?_
  refine mi_callV okX9_ofTrack (mc := 0) (ms := 0) (mc' := 0) (ms' := 0) (b := M) (As := [.int x]) (st := [.ref M]) rfl cv_RX9_137 rfl (by decide) (show 6 ≤ _ by have := hw.1; omega) (show _ < h.1 by have := hw.1; omega) hc rfl (Nat.le_of_ble_eq_true rfl) (m_isNoTrack hw hc) (fun r h1 q => ?_)
  obtain ⟨rfl, e9⟩ := q; have e9 := e9.symm; subst e9
  change mi_WX _ pP X kX9_ofTrack 2 0 0 6 [(0, .ref M), (1, .int x), (2, .int y)] [.int 1, .ref M] h _
  refine mi_blk okX9_ofTrack 1 (pc' := 7) (lv' := [(0, .ref M), (1, .int x), (2, .int y)]) (st' := [.int 1, .int 1, .ref M]) rfl ?_
  refine mi_callV okX9_ofTrack (mc := 0) (ms := 0) (mc' := 0) (ms' := 0) (b := M) (As := [.int 1, .int 1]) (st := []) rfl cv_RX9_130 rfl (by decide) (show 6 ≤ _ by have := hw.1; omega) (show _ < h.1 by have := hw.1; omega) hc rfl (Nat.le_of_ble_eq_true rfl) (m_start_1 (h := h) (u := (0, 0, 0, 4, 0, 0, 0, 0, 0)) (show 6 ≤ _ by have := hw.1; omega) (show _ < h.1 by have := hw.1; omega) hc (by decide)) (fun r h1 q => ?_)
  obtain ⟨rfl, e9⟩ := q; subst e9
  change mi_WX _ pP X kX9_ofTrack 2 0 0 10 [(0, .ref M), (1, .int x), (2, .int y)] [.int 1] (mi_set h M (.inr (9, [.int 1, .ref (M + 1), .ref (M + 2), .ref (M + 3), .ref (M + 4), .int 0, .int 0, .int 0, .int 4, .ref (M + 5), .int 0, .double 0, .int 0, .int 0, .int 0]))) _
  refine mi_if_ne okX9_ofTrack rfl rfl (fun c_10 => ?_) (fun c_10 => absurd c_10 (by decide))
  refine mi_blk okX9_ofTrack 2 (pc' := 46) (lv' := [(0, .ref M), (1, .int x), (2, .int y)]) (st' := [.int 0]) rfl ?_
  exact mi_ret_i okX9_ofTrack rfl rfl rfl ⟨rfl, mp.set (0, 0, 0, 4, 0, 0, 0, 0, 0)⟩
set_option maxHeartbeats 4000000 in
set_option maxRecDepth 100000 in
theorem m_ofFile_f {X : mi_X} {h : mi_H} {M : Nat} (hw : mo_W M h) (hc : h.2 M = mo_c M 0 mo_0) {x y z : Int32} (hx : x < 0 ∨ nI 10 ≤ x) : mi_S pP X kX9_ofFile 2 [.ref M, .int x, .int y, .int z] h 0 0 (fun r h1 => r = some (.int 0) ∧ mp M h 1 h1) := by
  refine enX9_ofFile (Nat.le_of_ble_eq_true rfl) ?_
  refine mi_blk okX9_ofFile 3 (pc' := 3) (lv' := [(0, .ref M), (1, .int x), (2, .int y), (3, .int z)]) (st' := [.int x, .ref M, .ref M]) rfl ?_
  refine mi_callV okX9_ofFile (mc := 0) (ms := 0) (mc' := 0) (ms' := 0) (b := M) (As := [.int x]) (st := [.ref M]) rfl cv_RX9_163 rfl (by decide) (show 6 ≤ _ by have := hw.1; omega) (show _ < h.1 by have := hw.1; omega) hc rfl (Nat.le_of_ble_eq_true rfl) (m_isNoFile_1 hx) (fun r h1 q => ?_)
  obtain ⟨rfl, e9⟩ := q; have e9 := e9.symm; subst e9
  change mi_WX _ pP X kX9_ofFile 2 0 0 6 [(0, .ref M), (1, .int x), (2, .int y), (3, .int z)] [.int 1, .ref M] h _
  refine mi_if_ne okX9_ofFile rfl rfl (fun c_6 => ?_) (fun c_6 => absurd c_6 (by decide))
  refine mi_blk okX9_ofFile 3 (pc' := 29) (lv' := [(0, .ref M), (1, .int x), (2, .int y), (3, .int z)]) (st' := [.int 1, .int 1, .ref M]) rfl ?_
  refine mi_callV okX9_ofFile (mc := 0) (ms := 0) (mc' := 0) (ms' := 0) (b := M) (As := [.int 1, .int 1]) (st := []) rfl cv_RX9_130 rfl (by decide) (show 6 ≤ _ by have := hw.1; omega) (show _ < h.1 by have := hw.1; omega) hc rfl (Nat.le_of_ble_eq_true rfl) (m_start_1 (h := h) (u := (0, 0, 0, 4, 0, 0, 0, 0, 0)) (show 6 ≤ _ by have := hw.1; omega) (show _ < h.1 by have := hw.1; omega) hc (by decide)) (fun r h1 q => ?_)
  obtain ⟨rfl, e9⟩ := q; subst e9
  change mi_WX _ pP X kX9_ofFile 2 0 0 32 [(0, .ref M), (1, .int x), (2, .int y), (3, .int z)] [.int 1] (mi_set h M (.inr (9, [.int 1, .ref (M + 1), .ref (M + 2), .ref (M + 3), .ref (M + 4), .int 0, .int 0, .int 0, .int 4, .ref (M + 5), .int 0, .double 0, .int 0, .int 0, .int 0]))) _
  refine mi_if_ne okX9_ofFile rfl rfl (fun c_32 => ?_) (fun c_32 => absurd c_32 (by decide))
  refine mi_blk okX9_ofFile 2 (pc' := 68) (lv' := [(0, .ref M), (1, .int x), (2, .int y), (3, .int z)]) (st' := [.int 0]) rfl ?_
  exact mi_ret_i okX9_ofFile rfl rfl rfl ⟨rfl, mp.set (0, 0, 0, 4, 0, 0, 0, 0, 0)⟩
set_option maxHeartbeats 4000000 in
set_option maxRecDepth 100000 in
theorem m_ofFile_s {X : mi_X} {h : mi_H} {M : Nat} (hw : mo_W M h) (hc : h.2 M = mo_c M 0 mo_0) {i : Nat} (hi : i < 10) {y z : Int32} : mi_S pP X kX9_ofFile 2 [.ref M, .int (nI i), .int y, .int z] h 0 0 (fun r h1 => r = some (.int 0) ∧ mp M h 1 h1) := by
  refine enX9_ofFile (Nat.le_of_ble_eq_true rfl) ?_
  refine mi_blk okX9_ofFile 3 (pc' := 3) (lv' := [(0, .ref M), (1, .int (nI i)), (2, .int y), (3, .int z)]) (st' := [.int (nI i), .ref M, .ref M]) rfl ?_
  refine mi_callV okX9_ofFile (mc := 0) (ms := 0) (mc' := 0) (ms' := 0) (b := M) (As := [.int (nI i)]) (st := [.ref M]) rfl cv_RX9_163 rfl (by decide) (show 6 ≤ _ by have := hw.1; omega) (show _ < h.1 by have := hw.1; omega) hc rfl (Nat.le_of_ble_eq_true rfl) (m_isNoFile_0 hi) (fun r h1 q => ?_)
  obtain ⟨rfl, e9⟩ := q; have e9 := e9.symm; subst e9
  change mi_WX _ pP X kX9_ofFile 2 0 0 6 [(0, .ref M), (1, .int (nI i)), (2, .int y), (3, .int z)] [.int 0, .ref M] h _
  refine mi_if_ne okX9_ofFile rfl rfl (fun c_6 => absurd (by decide) c_6) (fun c_6 => ?_)
  refine mi_blk okX9_ofFile 3 (pc' := 12) (lv' := [(0, .ref M), (1, .int (nI i)), (2, .int y), (3, .int z)]) (st' := [.ref M, .int 0, .int y, .ref M]) rfl ?_
  refine mi_getf okX9_ofFile rfl fg_RX9_124 (show 6 ≤ _ by have := hw.1; omega) (show _ < h.1 by have := hw.1; omega) hc (v := .int 0) rfl ?_
  refine mi_blk okX9_ofFile 2 (pc' := 17) (lv' := [(0, .ref M), (1, .int (nI i)), (2, .int y), (3, .int z)]) (st' := [.int (-1), .int 0, .int y, .ref M]) rfl ?_
  refine mi_callS okX9_ofFile (mc := 0) (ms := 0) (mc' := 0) (ms' := 0) (As := [.int y, .int 0, .int (-1)]) (st := [.ref M]) rfl cs_RX9_46 rfl (by decide) (Nat.le_of_ble_eq_true rfl) (m_isIn_0 (hx_m1 y)) (fun r h1 q => ?_)
  obtain ⟨rfl, e9⟩ := q; have e9 := e9.symm; subst e9
  change mi_WX _ pP X kX9_ofFile 2 0 0 20 [(0, .ref M), (1, .int (nI i)), (2, .int y), (3, .int z)] [.int 0, .ref M] h _
  refine mi_if_ne okX9_ofFile rfl rfl (fun c_20 => absurd (by decide) c_20) (fun c_20 => ?_)
  refine mi_blk okX9_ofFile 3 (pc' := 29) (lv' := [(0, .ref M), (1, .int (nI i)), (2, .int y), (3, .int z)]) (st' := [.int 1, .int 1, .ref M]) rfl ?_
  refine mi_callV okX9_ofFile (mc := 0) (ms := 0) (mc' := 0) (ms' := 0) (b := M) (As := [.int 1, .int 1]) (st := []) rfl cv_RX9_130 rfl (by decide) (show 6 ≤ _ by have := hw.1; omega) (show _ < h.1 by have := hw.1; omega) hc rfl (Nat.le_of_ble_eq_true rfl) (m_start_1 (h := h) (u := (0, 0, 0, 4, 0, 0, 0, 0, 0)) (show 6 ≤ _ by have := hw.1; omega) (show _ < h.1 by have := hw.1; omega) hc (by decide)) (fun r h1 q => ?_)
  obtain ⟨rfl, e9⟩ := q; subst e9
  change mi_WX _ pP X kX9_ofFile 2 0 0 32 [(0, .ref M), (1, .int (nI i)), (2, .int y), (3, .int z)] [.int 1] (mi_set h M (.inr (9, [.int 1, .ref (M + 1), .ref (M + 2), .ref (M + 3), .ref (M + 4), .int 0, .int 0, .int 0, .int 4, .ref (M + 5), .int 0, .double 0, .int 0, .int 0, .int 0]))) _
  refine mi_if_ne okX9_ofFile rfl rfl (fun c_32 => ?_) (fun c_32 => absurd c_32 (by decide))
  refine mi_blk okX9_ofFile 2 (pc' := 68) (lv' := [(0, .ref M), (1, .int (nI i)), (2, .int y), (3, .int z)]) (st' := [.int 0]) rfl ?_
  exact mi_ret_i okX9_ofFile rfl rfl rfl ⟨rfl, mp.set (0, 0, 0, 4, 0, 0, 0, 0, 0)⟩
set_option maxHeartbeats 4000000 in
set_option maxRecDepth 100000 in
theorem lm_scr {X : mi_X} {h : mi_H} {M : Nat} (hw : mo_W M h) {th : Int32} (hc : h.2 M = mo_c M th mo_0) {x y z u : Int32} {Q : Option Value → mi_H → Prop} (hQ : Q (some (.int 0)) h) : ∀ (m t : Nat), t + m = 240 → mi_W pP X kX9_scratch 2 0 0 64 [(6, .int (nI t)), (5, .int 0), (0, .ref M), (1, .int x), (2, .int y), (3, .int z), (4, .int u)] [] h Q := by
  intro m
  induction m with
  | zero =>
    intro t ht
    obtain rfl : t = 240 := by omega
    refine mi_blk okX9_scratch 2 (pc' := 69) (lv' := [(6, .int (nI 240)), (5, .int 0), (0, .ref M), (1, .int x), (2, .int y), (3, .int z), (4, .int u)]) (st' := [.int 240, .int (nI 240)]) rfl ?_
    refine mi_ic_ge okX9_scratch rfl rfl (fun c_69 => ?_) (fun c_69 => absurd (by decide) c_69)
    refine mi_blk okX9_scratch 1 (pc' := 176) (lv' := [(6, .int (nI 240)), (5, .int 0), (0, .ref M), (1, .int x), (2, .int y), (3, .int z), (4, .int u)]) (st' := [.int 0]) rfl ?_
    exact mi_ret_i okX9_scratch rfl rfl rfl hQ
  | succ m ih =>
    intro t ht
    refine mi_blk okX9_scratch 2 (pc' := 69) (lv' := [(6, .int (nI t)), (5, .int 0), (0, .ref M), (1, .int x), (2, .int y), (3, .int z), (4, .int u)]) (st' := [.int 240, .int (nI t)]) rfl ?_
    refine mi_ic_ge okX9_scratch rfl rfl (fun c_69 => absurd c_69 (nI_ge (a := t) (b := 240) (by omega) (by decide))) (fun c_69 => ?_)
    refine mi_blk okX9_scratch 1 (pc' := 73) (lv' := [(6, .int (nI t)), (5, .int 0), (0, .ref M), (1, .int x), (2, .int y), (3, .int z), (4, .int u)]) (st' := [.ref M]) rfl ?_
    refine mi_getf okX9_scratch rfl fg_RX9_11 (show 6 ≤ _ by have := hw.1; omega) (show _ < h.1 by have := hw.1; omega) hc (v := .ref (M + 1)) rfl ?_
    refine mi_blk okX9_scratch 1 (pc' := 78) (lv' := [(6, .int (nI t)), (5, .int 0), (0, .ref M), (1, .int x), (2, .int y), (3, .int z), (4, .int u)]) (st' := [.int (nI t), .ref (M + 1)]) rfl ?_
    refine mo_aab okX9_scratch (k := t) rfl hw (by omega) ?_
    refine mi_ifnull_n okX9_scratch rfl rfl ?_
    refine mi_blk okX9_scratch 2 (pc' := 64) (lv' := [(6, .int ((nI t) + 1)), (5, .int 0), (0, .ref M), (1, .int x), (2, .int y), (3, .int z), (4, .int u)]) (st' := []) rfl ?_
    rw [← nI_succ]
    refine mi_WX.locs (lv' := [(6, .int (nI (t + 1))), (5, .int 0), (0, .ref M), (1, .int x), (2, .int y), (3, .int z), (4, .int u)]) (by simp) ?_
    exact ih (t + 1) (by omega)
set_option maxHeartbeats 4000000 in
set_option maxRecDepth 100000 in
theorem m_scratch_1 {X : mi_X} {h : mi_H} {M : Nat} (hw : mo_W M h) (hc : h.2 M = mo_c M 0 mo_0) {x y z u : Int32} (hx : x < 0 ∨ 29 < x) : mi_S pP X kX9_scratch 2 [.ref M, .int x, .int y, .int z, .int u] h 0 0 (fun r h1 => r = some (.int 0) ∧ mp M h 1 h1) := by
  refine enX9_scratch (Nat.le_of_ble_eq_true rfl) ?_
  refine mi_blk okX9_scratch 4 (pc' := 5) (lv' := [(0, .ref M), (1, .int x), (2, .int y), (3, .int z), (4, .int u)]) (st' := [.int 29, .int 0, .int x, .ref M]) rfl ?_
  refine mi_callS okX9_scratch (mc := 0) (ms := 0) (mc' := 0) (ms' := 0) (As := [.int x, .int 0, .int 29]) (st := [.ref M]) rfl cs_RX9_46 rfl (by decide) (Nat.le_of_ble_eq_true rfl) (m_isIn_0 hx) (fun r h1 q => ?_)
  obtain ⟨rfl, e9⟩ := q; have e9 := e9.symm; subst e9
  change mi_WX _ pP X kX9_scratch 2 0 0 8 [(0, .ref M), (1, .int x), (2, .int y), (3, .int z), (4, .int u)] [.int 0, .ref M] h _
  refine mi_if_eq okX9_scratch rfl rfl (fun c_8 => ?_) (fun c_8 => absurd (by decide) c_8)
  refine mi_blk okX9_scratch 3 (pc' := 50) (lv' := [(0, .ref M), (1, .int x), (2, .int y), (3, .int z), (4, .int u)]) (st' := [.int 1, .int 1, .ref M]) rfl ?_
  refine mi_callV okX9_scratch (mc := 0) (ms := 0) (mc' := 0) (ms' := 0) (b := M) (As := [.int 1, .int 1]) (st := []) rfl cv_RX9_130 rfl (by decide) (show 6 ≤ _ by have := hw.1; omega) (show _ < h.1 by have := hw.1; omega) hc rfl (Nat.le_of_ble_eq_true rfl) (m_start_1 (h := h) (u := (0, 0, 0, 4, 0, 0, 0, 0, 0)) (show 6 ≤ _ by have := hw.1; omega) (show _ < h.1 by have := hw.1; omega) hc (by decide)) (fun r h1 q => ?_)
  obtain ⟨rfl, e9⟩ := q; subst e9
  change mi_WX _ pP X kX9_scratch 2 0 0 53 [(0, .ref M), (1, .int x), (2, .int y), (3, .int z), (4, .int u)] [.int 1] (mi_set h M (.inr (9, [.int 1, .ref (M + 1), .ref (M + 2), .ref (M + 3), .ref (M + 4), .int 0, .int 0, .int 0, .int 4, .ref (M + 5), .int 0, .double 0, .int 0, .int 0, .int 0]))) _
  refine mi_if_eq okX9_scratch rfl rfl (fun c_53 => absurd c_53 (by decide)) (fun c_53 => ?_)
  refine mi_blk okX9_scratch 1 (pc' := 57) (lv' := [(0, .ref M), (1, .int x), (2, .int y), (3, .int z), (4, .int u)]) (st' := [.int 0]) rfl ?_
  exact mi_ret_i okX9_scratch rfl rfl rfl ⟨rfl, mp.set (0, 0, 0, 4, 0, 0, 0, 0, 0)⟩
set_option maxHeartbeats 4000000 in
set_option maxRecDepth 100000 in
theorem m_scratch_2 {X : mi_X} {h : mi_H} {M : Nat} (hw : mo_W M h) (hc : h.2 M = mo_c M 0 mo_0) {x y z u : Int32} (h1 : ¬ x < 0) (h2 : ¬ 29 < x) (hx : y < x ∨ 29 < y) : mi_S pP X kX9_scratch 2 [.ref M, .int x, .int y, .int z, .int u] h 0 0 (fun r h1 => r = some (.int 0) ∧ mp M h 1 h1) := by
  refine enX9_scratch (Nat.le_of_ble_eq_true rfl) ?_
  refine mi_blk okX9_scratch 4 (pc' := 5) (lv' := [(0, .ref M), (1, .int x), (2, .int y), (3, .int z), (4, .int u)]) (st' := [.int 29, .int 0, .int x, .ref M]) rfl ?_
  refine mi_callS okX9_scratch (mc := 0) (ms := 0) (mc' := 0) (ms' := 0) (As := [.int x, .int 0, .int 29]) (st := [.ref M]) rfl cs_RX9_46 rfl (by decide) (Nat.le_of_ble_eq_true rfl) (m_isIn_1 h1 h2) (fun r h1 q => ?_)
  obtain ⟨rfl, e9⟩ := q; have e9 := e9.symm; subst e9
  change mi_WX _ pP X kX9_scratch 2 0 0 8 [(0, .ref M), (1, .int x), (2, .int y), (3, .int z), (4, .int u)] [.int 1, .ref M] h _
  refine mi_if_eq okX9_scratch rfl rfl (fun c_8 => absurd c_8 (by decide)) (fun c_8 => ?_)
  refine mi_blk okX9_scratch 3 (pc' := 15) (lv' := [(0, .ref M), (1, .int x), (2, .int y), (3, .int z), (4, .int u)]) (st' := [.int 29, .int x, .int y, .ref M]) rfl ?_
  refine mi_callS okX9_scratch (mc := 0) (ms := 0) (mc' := 0) (ms' := 0) (As := [.int y, .int x, .int 29]) (st := [.ref M]) rfl cs_RX9_46 rfl (by decide) (Nat.le_of_ble_eq_true rfl) (m_isIn_0 hx) (fun r h1 q => ?_)
  obtain ⟨rfl, e9⟩ := q; have e9 := e9.symm; subst e9
  change mi_WX _ pP X kX9_scratch 2 0 0 18 [(0, .ref M), (1, .int x), (2, .int y), (3, .int z), (4, .int u)] [.int 0, .ref M] h _
  refine mi_if_eq okX9_scratch rfl rfl (fun c_18 => ?_) (fun c_18 => absurd (by decide) c_18)
  refine mi_blk okX9_scratch 3 (pc' := 50) (lv' := [(0, .ref M), (1, .int x), (2, .int y), (3, .int z), (4, .int u)]) (st' := [.int 1, .int 1, .ref M]) rfl ?_
  refine mi_callV okX9_scratch (mc := 0) (ms := 0) (mc' := 0) (ms' := 0) (b := M) (As := [.int 1, .int 1]) (st := []) rfl cv_RX9_130 rfl (by decide) (show 6 ≤ _ by have := hw.1; omega) (show _ < h.1 by have := hw.1; omega) hc rfl (Nat.le_of_ble_eq_true rfl) (m_start_1 (h := h) (u := (0, 0, 0, 4, 0, 0, 0, 0, 0)) (show 6 ≤ _ by have := hw.1; omega) (show _ < h.1 by have := hw.1; omega) hc (by decide)) (fun r h1 q => ?_)
  obtain ⟨rfl, e9⟩ := q; subst e9
  change mi_WX _ pP X kX9_scratch 2 0 0 53 [(0, .ref M), (1, .int x), (2, .int y), (3, .int z), (4, .int u)] [.int 1] (mi_set h M (.inr (9, [.int 1, .ref (M + 1), .ref (M + 2), .ref (M + 3), .ref (M + 4), .int 0, .int 0, .int 0, .int 4, .ref (M + 5), .int 0, .double 0, .int 0, .int 0, .int 0]))) _
  refine mi_if_eq okX9_scratch rfl rfl (fun c_53 => absurd c_53 (by decide)) (fun c_53 => ?_)
  refine mi_blk okX9_scratch 1 (pc' := 57) (lv' := [(0, .ref M), (1, .int x), (2, .int y), (3, .int z), (4, .int u)]) (st' := [.int 0]) rfl ?_
  exact mi_ret_i okX9_scratch rfl rfl rfl ⟨rfl, mp.set (0, 0, 0, 4, 0, 0, 0, 0, 0)⟩
set_option maxHeartbeats 4000000 in
set_option maxRecDepth 100000 in
theorem m_scratch_3 {X : mi_X} {h : mi_H} {M : Nat} (hw : mo_W M h) (hc : h.2 M = mo_c M 0 mo_0) {x y z u : Int32} (h1 : ¬ x < 0) (h2 : ¬ 29 < x) (h3 : ¬ y < x) (h4 : ¬ 29 < y) (hx : z < 0 ∨ 359 < z) : mi_S pP X kX9_scratch 2 [.ref M, .int x, .int y, .int z, .int u] h 0 0 (fun r h1 => r = some (.int 0) ∧ mp M h 1 h1) := by
  refine enX9_scratch (Nat.le_of_ble_eq_true rfl) ?_
  refine mi_blk okX9_scratch 4 (pc' := 5) (lv' := [(0, .ref M), (1, .int x), (2, .int y), (3, .int z), (4, .int u)]) (st' := [.int 29, .int 0, .int x, .ref M]) rfl ?_
  refine mi_callS okX9_scratch (mc := 0) (ms := 0) (mc' := 0) (ms' := 0) (As := [.int x, .int 0, .int 29]) (st := [.ref M]) rfl cs_RX9_46 rfl (by decide) (Nat.le_of_ble_eq_true rfl) (m_isIn_1 h1 h2) (fun r h1 q => ?_)
  obtain ⟨rfl, e9⟩ := q; have e9 := e9.symm; subst e9
  change mi_WX _ pP X kX9_scratch 2 0 0 8 [(0, .ref M), (1, .int x), (2, .int y), (3, .int z), (4, .int u)] [.int 1, .ref M] h _
  refine mi_if_eq okX9_scratch rfl rfl (fun c_8 => absurd c_8 (by decide)) (fun c_8 => ?_)
  refine mi_blk okX9_scratch 3 (pc' := 15) (lv' := [(0, .ref M), (1, .int x), (2, .int y), (3, .int z), (4, .int u)]) (st' := [.int 29, .int x, .int y, .ref M]) rfl ?_
  refine mi_callS okX9_scratch (mc := 0) (ms := 0) (mc' := 0) (ms' := 0) (As := [.int y, .int x, .int 29]) (st := [.ref M]) rfl cs_RX9_46 rfl (by decide) (Nat.le_of_ble_eq_true rfl) (m_isIn_1 h3 h4) (fun r h1 q => ?_)
  obtain ⟨rfl, e9⟩ := q; have e9 := e9.symm; subst e9
  change mi_WX _ pP X kX9_scratch 2 0 0 18 [(0, .ref M), (1, .int x), (2, .int y), (3, .int z), (4, .int u)] [.int 1, .ref M] h _
  refine mi_if_eq okX9_scratch rfl rfl (fun c_18 => absurd c_18 (by decide)) (fun c_18 => ?_)
  refine mi_blk okX9_scratch 3 (pc' := 26) (lv' := [(0, .ref M), (1, .int x), (2, .int y), (3, .int z), (4, .int u)]) (st' := [.int 359, .int 0, .int z, .ref M]) rfl ?_
  refine mi_callS okX9_scratch (mc := 0) (ms := 0) (mc' := 0) (ms' := 0) (As := [.int z, .int 0, .int 359]) (st := [.ref M]) rfl cs_RX9_46 rfl (by decide) (Nat.le_of_ble_eq_true rfl) (m_isIn_0 hx) (fun r h1 q => ?_)
  obtain ⟨rfl, e9⟩ := q; have e9 := e9.symm; subst e9
  change mi_WX _ pP X kX9_scratch 2 0 0 29 [(0, .ref M), (1, .int x), (2, .int y), (3, .int z), (4, .int u)] [.int 0, .ref M] h _
  refine mi_if_eq okX9_scratch rfl rfl (fun c_29 => ?_) (fun c_29 => absurd (by decide) c_29)
  refine mi_blk okX9_scratch 3 (pc' := 50) (lv' := [(0, .ref M), (1, .int x), (2, .int y), (3, .int z), (4, .int u)]) (st' := [.int 1, .int 1, .ref M]) rfl ?_
  refine mi_callV okX9_scratch (mc := 0) (ms := 0) (mc' := 0) (ms' := 0) (b := M) (As := [.int 1, .int 1]) (st := []) rfl cv_RX9_130 rfl (by decide) (show 6 ≤ _ by have := hw.1; omega) (show _ < h.1 by have := hw.1; omega) hc rfl (Nat.le_of_ble_eq_true rfl) (m_start_1 (h := h) (u := (0, 0, 0, 4, 0, 0, 0, 0, 0)) (show 6 ≤ _ by have := hw.1; omega) (show _ < h.1 by have := hw.1; omega) hc (by decide)) (fun r h1 q => ?_)
  obtain ⟨rfl, e9⟩ := q; subst e9
  change mi_WX _ pP X kX9_scratch 2 0 0 53 [(0, .ref M), (1, .int x), (2, .int y), (3, .int z), (4, .int u)] [.int 1] (mi_set h M (.inr (9, [.int 1, .ref (M + 1), .ref (M + 2), .ref (M + 3), .ref (M + 4), .int 0, .int 0, .int 0, .int 4, .ref (M + 5), .int 0, .double 0, .int 0, .int 0, .int 0]))) _
  refine mi_if_eq okX9_scratch rfl rfl (fun c_53 => absurd c_53 (by decide)) (fun c_53 => ?_)
  refine mi_blk okX9_scratch 1 (pc' := 57) (lv' := [(0, .ref M), (1, .int x), (2, .int y), (3, .int z), (4, .int u)]) (st' := [.int 0]) rfl ?_
  exact mi_ret_i okX9_scratch rfl rfl rfl ⟨rfl, mp.set (0, 0, 0, 4, 0, 0, 0, 0, 0)⟩
set_option maxHeartbeats 4000000 in
set_option maxRecDepth 100000 in
theorem m_scratch_4 {X : mi_X} {h : mi_H} {M : Nat} (hw : mo_W M h) (hc : h.2 M = mo_c M 0 mo_0) {x y z u : Int32} (h1 : ¬ x < 0) (h2 : ¬ 29 < x) (h3 : ¬ y < x) (h4 : ¬ 29 < y) (h5 : ¬ z < 0) (h6 : ¬ 359 < z) (hx : u < z ∨ 359 < u) : mi_S pP X kX9_scratch 2 [.ref M, .int x, .int y, .int z, .int u] h 0 0 (fun r h1 => r = some (.int 0) ∧ mp M h 1 h1) := by
  refine enX9_scratch (Nat.le_of_ble_eq_true rfl) ?_
  refine mi_blk okX9_scratch 4 (pc' := 5) (lv' := [(0, .ref M), (1, .int x), (2, .int y), (3, .int z), (4, .int u)]) (st' := [.int 29, .int 0, .int x, .ref M]) rfl ?_
  refine mi_callS okX9_scratch (mc := 0) (ms := 0) (mc' := 0) (ms' := 0) (As := [.int x, .int 0, .int 29]) (st := [.ref M]) rfl cs_RX9_46 rfl (by decide) (Nat.le_of_ble_eq_true rfl) (m_isIn_1 h1 h2) (fun r h1 q => ?_)
  obtain ⟨rfl, e9⟩ := q; have e9 := e9.symm; subst e9
  change mi_WX _ pP X kX9_scratch 2 0 0 8 [(0, .ref M), (1, .int x), (2, .int y), (3, .int z), (4, .int u)] [.int 1, .ref M] h _
  refine mi_if_eq okX9_scratch rfl rfl (fun c_8 => absurd c_8 (by decide)) (fun c_8 => ?_)
  refine mi_blk okX9_scratch 3 (pc' := 15) (lv' := [(0, .ref M), (1, .int x), (2, .int y), (3, .int z), (4, .int u)]) (st' := [.int 29, .int x, .int y, .ref M]) rfl ?_
  refine mi_callS okX9_scratch (mc := 0) (ms := 0) (mc' := 0) (ms' := 0) (As := [.int y, .int x, .int 29]) (st := [.ref M]) rfl cs_RX9_46 rfl (by decide) (Nat.le_of_ble_eq_true rfl) (m_isIn_1 h3 h4) (fun r h1 q => ?_)
  obtain ⟨rfl, e9⟩ := q; have e9 := e9.symm; subst e9
  change mi_WX _ pP X kX9_scratch 2 0 0 18 [(0, .ref M), (1, .int x), (2, .int y), (3, .int z), (4, .int u)] [.int 1, .ref M] h _
  refine mi_if_eq okX9_scratch rfl rfl (fun c_18 => absurd c_18 (by decide)) (fun c_18 => ?_)
  refine mi_blk okX9_scratch 3 (pc' := 26) (lv' := [(0, .ref M), (1, .int x), (2, .int y), (3, .int z), (4, .int u)]) (st' := [.int 359, .int 0, .int z, .ref M]) rfl ?_
  refine mi_callS okX9_scratch (mc := 0) (ms := 0) (mc' := 0) (ms' := 0) (As := [.int z, .int 0, .int 359]) (st := [.ref M]) rfl cs_RX9_46 rfl (by decide) (Nat.le_of_ble_eq_true rfl) (m_isIn_1 h5 h6) (fun r h1 q => ?_)
  obtain ⟨rfl, e9⟩ := q; have e9 := e9.symm; subst e9
  change mi_WX _ pP X kX9_scratch 2 0 0 29 [(0, .ref M), (1, .int x), (2, .int y), (3, .int z), (4, .int u)] [.int 1, .ref M] h _
  refine mi_if_eq okX9_scratch rfl rfl (fun c_29 => absurd c_29 (by decide)) (fun c_29 => ?_)
  refine mi_blk okX9_scratch 3 (pc' := 38) (lv' := [(0, .ref M), (1, .int x), (2, .int y), (3, .int z), (4, .int u)]) (st' := [.int 359, .int z, .int u, .ref M]) rfl ?_
  refine mi_callS okX9_scratch (mc := 0) (ms := 0) (mc' := 0) (ms' := 0) (As := [.int u, .int z, .int 359]) (st := [.ref M]) rfl cs_RX9_46 rfl (by decide) (Nat.le_of_ble_eq_true rfl) (m_isIn_0 hx) (fun r h1 q => ?_)
  obtain ⟨rfl, e9⟩ := q; have e9 := e9.symm; subst e9
  change mi_WX _ pP X kX9_scratch 2 0 0 41 [(0, .ref M), (1, .int x), (2, .int y), (3, .int z), (4, .int u)] [.int 0, .ref M] h _
  refine mi_if_ne okX9_scratch rfl rfl (fun c_41 => absurd (by decide) c_41) (fun c_41 => ?_)
  refine mi_blk okX9_scratch 3 (pc' := 50) (lv' := [(0, .ref M), (1, .int x), (2, .int y), (3, .int z), (4, .int u)]) (st' := [.int 1, .int 1, .ref M]) rfl ?_
  refine mi_callV okX9_scratch (mc := 0) (ms := 0) (mc' := 0) (ms' := 0) (b := M) (As := [.int 1, .int 1]) (st := []) rfl cv_RX9_130 rfl (by decide) (show 6 ≤ _ by have := hw.1; omega) (show _ < h.1 by have := hw.1; omega) hc rfl (Nat.le_of_ble_eq_true rfl) (m_start_1 (h := h) (u := (0, 0, 0, 4, 0, 0, 0, 0, 0)) (show 6 ≤ _ by have := hw.1; omega) (show _ < h.1 by have := hw.1; omega) hc (by decide)) (fun r h1 q => ?_)
  obtain ⟨rfl, e9⟩ := q; subst e9
  change mi_WX _ pP X kX9_scratch 2 0 0 53 [(0, .ref M), (1, .int x), (2, .int y), (3, .int z), (4, .int u)] [.int 1] (mi_set h M (.inr (9, [.int 1, .ref (M + 1), .ref (M + 2), .ref (M + 3), .ref (M + 4), .int 0, .int 0, .int 0, .int 4, .ref (M + 5), .int 0, .double 0, .int 0, .int 0, .int 0]))) _
  refine mi_if_eq okX9_scratch rfl rfl (fun c_53 => absurd c_53 (by decide)) (fun c_53 => ?_)
  refine mi_blk okX9_scratch 1 (pc' := 57) (lv' := [(0, .ref M), (1, .int x), (2, .int y), (3, .int z), (4, .int u)]) (st' := [.int 0]) rfl ?_
  exact mi_ret_i okX9_scratch rfl rfl rfl ⟨rfl, mp.set (0, 0, 0, 4, 0, 0, 0, 0, 0)⟩
set_option maxHeartbeats 4000000 in
set_option maxRecDepth 100000 in
theorem m_scratch {X : mi_X} {h : mi_H} {M : Nat} (hw : mo_W M h) (hc : h.2 M = mo_c M 0 mo_0) {x y z u : Int32} (h1 : ¬ x < 0) (h2 : ¬ 29 < x) (h3 : ¬ y < x) (h4 : ¬ 29 < y) (h5 : ¬ z < 0) (h6 : ¬ 359 < z) (h7 : ¬ u < z) (h8 : ¬ 359 < u) : mi_S pP X kX9_scratch 2 [.ref M, .int x, .int y, .int z, .int u] h 0 0 (fun r h1 => r = some (.int 0) ∧ mp M h 0 h1) := by
  refine enX9_scratch (Nat.le_of_ble_eq_true rfl) ?_
  refine mi_blk okX9_scratch 4 (pc' := 5) (lv' := [(0, .ref M), (1, .int x), (2, .int y), (3, .int z), (4, .int u)]) (st' := [.int 29, .int 0, .int x, .ref M]) rfl ?_
  refine mi_callS okX9_scratch (mc := 0) (ms := 0) (mc' := 0) (ms' := 0) (As := [.int x, .int 0, .int 29]) (st := [.ref M]) rfl cs_RX9_46 rfl (by decide) (Nat.le_of_ble_eq_true rfl) (m_isIn_1 h1 h2) (fun r h1 q => ?_)
  obtain ⟨rfl, e9⟩ := q; have e9 := e9.symm; subst e9
  change mi_WX _ pP X kX9_scratch 2 0 0 8 [(0, .ref M), (1, .int x), (2, .int y), (3, .int z), (4, .int u)] [.int 1, .ref M] h _
  refine mi_if_eq okX9_scratch rfl rfl (fun c_8 => absurd c_8 (by decide)) (fun c_8 => ?_)
  refine mi_blk okX9_scratch 3 (pc' := 15) (lv' := [(0, .ref M), (1, .int x), (2, .int y), (3, .int z), (4, .int u)]) (st' := [.int 29, .int x, .int y, .ref M]) rfl ?_
  refine mi_callS okX9_scratch (mc := 0) (ms := 0) (mc' := 0) (ms' := 0) (As := [.int y, .int x, .int 29]) (st := [.ref M]) rfl cs_RX9_46 rfl (by decide) (Nat.le_of_ble_eq_true rfl) (m_isIn_1 h3 h4) (fun r h1 q => ?_)
  obtain ⟨rfl, e9⟩ := q; have e9 := e9.symm; subst e9
  change mi_WX _ pP X kX9_scratch 2 0 0 18 [(0, .ref M), (1, .int x), (2, .int y), (3, .int z), (4, .int u)] [.int 1, .ref M] h _
  refine mi_if_eq okX9_scratch rfl rfl (fun c_18 => absurd c_18 (by decide)) (fun c_18 => ?_)
  refine mi_blk okX9_scratch 3 (pc' := 26) (lv' := [(0, .ref M), (1, .int x), (2, .int y), (3, .int z), (4, .int u)]) (st' := [.int 359, .int 0, .int z, .ref M]) rfl ?_
  refine mi_callS okX9_scratch (mc := 0) (ms := 0) (mc' := 0) (ms' := 0) (As := [.int z, .int 0, .int 359]) (st := [.ref M]) rfl cs_RX9_46 rfl (by decide) (Nat.le_of_ble_eq_true rfl) (m_isIn_1 h5 h6) (fun r h1 q => ?_)
  obtain ⟨rfl, e9⟩ := q; have e9 := e9.symm; subst e9
  change mi_WX _ pP X kX9_scratch 2 0 0 29 [(0, .ref M), (1, .int x), (2, .int y), (3, .int z), (4, .int u)] [.int 1, .ref M] h _
  refine mi_if_eq okX9_scratch rfl rfl (fun c_29 => absurd c_29 (by decide)) (fun c_29 => ?_)
  refine mi_blk okX9_scratch 3 (pc' := 38) (lv' := [(0, .ref M), (1, .int x), (2, .int y), (3, .int z), (4, .int u)]) (st' := [.int 359, .int z, .int u, .ref M]) rfl ?_
  refine mi_callS okX9_scratch (mc := 0) (ms := 0) (mc' := 0) (ms' := 0) (As := [.int u, .int z, .int 359]) (st := [.ref M]) rfl cs_RX9_46 rfl (by decide) (Nat.le_of_ble_eq_true rfl) (m_isIn_1 h7 h8) (fun r h1 q => ?_)
  obtain ⟨rfl, e9⟩ := q; have e9 := e9.symm; subst e9
  change mi_WX _ pP X kX9_scratch 2 0 0 41 [(0, .ref M), (1, .int x), (2, .int y), (3, .int z), (4, .int u)] [.int 1, .ref M] h _
  refine mi_if_ne okX9_scratch rfl rfl (fun c_41 => ?_) (fun c_41 => absurd c_41 (by decide))
  refine mi_blk okX9_scratch 2 (pc' := 50) (lv' := [(0, .ref M), (1, .int x), (2, .int y), (3, .int z), (4, .int u)]) (st' := [.int 1, .int 0, .ref M]) rfl ?_
  refine mi_callV okX9_scratch (mc := 0) (ms := 0) (mc' := 0) (ms' := 0) (b := M) (As := [.int 0, .int 1]) (st := []) rfl cv_RX9_130 rfl (by decide) (show 6 ≤ _ by have := hw.1; omega) (show _ < h.1 by have := hw.1; omega) hc rfl (Nat.le_of_ble_eq_true rfl) (m_start_0 (h := h) (u := (0, 0, 0, 4, 0, 0, 0, 0, 0)) (show 6 ≤ _ by have := hw.1; omega) (show _ < h.1 by have := hw.1; omega) hc) (fun r h1 q => ?_)
  obtain ⟨rfl, e9⟩ := q; subst e9
  change mi_WX _ pP X kX9_scratch 2 0 0 53 [(0, .ref M), (1, .int x), (2, .int y), (3, .int z), (4, .int u)] [.int 0] (mi_set h M (.inr (9, [.int 0, .ref (M + 1), .ref (M + 2), .ref (M + 3), .ref (M + 4), .int 0, .int 0, .int 0, .int 4, .ref (M + 5), .int 0, .double 0, .int 0, .int 0, .int 0]))) _
  refine mi_if_eq okX9_scratch rfl rfl (fun c_53 => ?_) (fun c_53 => absurd (by decide) c_53)
  refine mi_blk okX9_scratch 4 (pc' := 64) (lv' := [(6, .int 0), (5, .int 0), (0, .ref M), (1, .int x), (2, .int y), (3, .int z), (4, .int u)]) (st' := []) rfl ?_
  change mi_WX _ pP X kX9_scratch 2 0 0 64 [(6, .int (nI 0)), (5, .int 0), (0, .ref M), (1, .int x), (2, .int y), (3, .int z), (4, .int u)] [] (mi_set h M (.inr (9, [.int 0, .ref (M + 1), .ref (M + 2), .ref (M + 3), .ref (M + 4), .int 0, .int 0, .int 0, .int 4, .ref (M + 5), .int 0, .double 0, .int 0, .int 0, .int 0]))) _
  exact lm_scr (h := (mi_set h M (.inr (9, [.int 0, .ref (M + 1), .ref (M + 2), .ref (M + 3), .ref (M + 4), .int 0, .int 0, .int 0, .int 4, .ref (M + 5), .int 0, .double 0, .int 0, .int 0, .int 0])))) (hw.set _) mi_set_self ⟨rfl, mp.set mo_0⟩ 240 0 rfl
set_option maxHeartbeats 4000000 in
set_option maxRecDepth 100000 in
theorem lm_rot {X : mi_X} {h : mi_H} {M : Nat} (hw : mo_W M h) {th : Int32} (hc : h.2 M = mo_c M th mo_0) {x : Int32} {Q : Option Value → mi_H → Prop} (hQ : Q (some (.int 0)) h) : ∀ (m t : Nat), t + m = 240 → mi_W pP X kX9_rot 2 0 0 30 [(3, .int (nI t)), (2, .int 0), (0, .ref M), (1, .int x)] [] h Q := by
  intro m
  induction m with
  | zero =>
    intro t ht
    obtain rfl : t = 240 := by omega
    refine mi_blk okX9_rot 2 (pc' := 34) (lv' := [(3, .int (nI 240)), (2, .int 0), (0, .ref M), (1, .int x)]) (st' := [.int 240, .int (nI 240)]) rfl ?_
    refine mi_ic_ge okX9_rot rfl rfl (fun c_34 => ?_) (fun c_34 => absurd (by decide) c_34)
    refine mi_blk okX9_rot 1 (pc' := 111) (lv' := [(3, .int (nI 240)), (2, .int 0), (0, .ref M), (1, .int x)]) (st' := [.int 0]) rfl ?_
    exact mi_ret_i okX9_rot rfl rfl rfl hQ
  | succ m ih =>
    intro t ht
    refine mi_blk okX9_rot 2 (pc' := 34) (lv' := [(3, .int (nI t)), (2, .int 0), (0, .ref M), (1, .int x)]) (st' := [.int 240, .int (nI t)]) rfl ?_
    refine mi_ic_ge okX9_rot rfl rfl (fun c_34 => absurd c_34 (nI_ge (a := t) (b := 240) (by omega) (by decide))) (fun c_34 => ?_)
    refine mi_blk okX9_rot 6 (pc' := 45) (lv' := [(3, .int (nI t)), (2, .int 0), (0, .ref M), (1, .int x)]) (st' := [.int 16, .int (((nI t) * 7) + x)]) rfl ?_
    refine mi_irem okX9_rot rfl (by decide) ?_
    refine mi_blk okX9_rot 2 (pc' := 49) (lv' := [(4, .int ((((nI t) * 7) + x) - (((nI t) * 7) + x) / 16 * 16)), (3, .int (nI t)), (2, .int 0), (0, .ref M), (1, .int x)]) (st' := [.ref M]) rfl ?_
    refine mi_getf okX9_rot rfl fg_RX9_11 (show 6 ≤ _ by have := hw.1; omega) (show _ < h.1 by have := hw.1; omega) hc (v := .ref (M + 1)) rfl ?_
    refine mi_blk okX9_rot 1 (pc' := 53) (lv' := [(4, .int ((((nI t) * 7) + x) - (((nI t) * 7) + x) / 16 * 16)), (3, .int (nI t)), (2, .int 0), (0, .ref M), (1, .int x)]) (st' := [.int (nI t), .ref (M + 1)]) rfl ?_
    refine mo_aab okX9_rot (k := t) rfl hw (by omega) ?_
    refine mi_ifnull_n okX9_rot rfl rfl ?_
    refine mi_blk okX9_rot 2 (pc' := 30) (lv' := [(3, .int ((nI t) + 1)), (4, .int ((((nI t) * 7) + x) - (((nI t) * 7) + x) / 16 * 16)), (2, .int 0), (0, .ref M), (1, .int x)]) (st' := []) rfl ?_
    rw [← nI_succ]
    refine mi_WX.locs (lv' := [(3, .int (nI (t + 1))), (2, .int 0), (0, .ref M), (1, .int x)]) (by simp) ?_
    exact ih (t + 1) (by omega)
set_option maxHeartbeats 4000000 in
set_option maxRecDepth 100000 in
theorem m_rot {X : mi_X} {h : mi_H} {M : Nat} (hw : mo_W M h) (hc : h.2 M = mo_c M 0 mo_0) {x : Int32} (h1 : ¬ x < 0) (h2 : ¬ 999 < x) : mi_S pP X kX9_rot 2 [.ref M, .int x] h 0 0 (fun r h1 => r = some (.int 0) ∧ mp M h 0 h1) := by
  refine enX9_rot (Nat.le_of_ble_eq_true rfl) ?_
  refine mi_blk okX9_rot 4 (pc' := 6) (lv' := [(0, .ref M), (1, .int x)]) (st' := [.int 999, .int 0, .int x, .ref M]) rfl ?_
  refine mi_callS okX9_rot (mc := 0) (ms := 0) (mc' := 0) (ms' := 0) (As := [.int x, .int 0, .int 999]) (st := [.ref M]) rfl cs_RX9_46 rfl (by decide) (Nat.le_of_ble_eq_true rfl) (m_isIn_1 h1 h2) (fun r h1 q => ?_)
  obtain ⟨rfl, e9⟩ := q; have e9 := e9.symm; subst e9
  change mi_WX _ pP X kX9_rot 2 0 0 9 [(0, .ref M), (1, .int x)] [.int 1, .ref M] h _
  refine mi_if_ne okX9_rot rfl rfl (fun c_9 => ?_) (fun c_9 => absurd c_9 (by decide))
  refine mi_blk okX9_rot 2 (pc' := 18) (lv' := [(0, .ref M), (1, .int x)]) (st' := [.int 1, .int 0, .ref M]) rfl ?_
  refine mi_callV okX9_rot (mc := 0) (ms := 0) (mc' := 0) (ms' := 0) (b := M) (As := [.int 0, .int 1]) (st := []) rfl cv_RX9_130 rfl (by decide) (show 6 ≤ _ by have := hw.1; omega) (show _ < h.1 by have := hw.1; omega) hc rfl (Nat.le_of_ble_eq_true rfl) (m_start_0 (h := h) (u := (0, 0, 0, 4, 0, 0, 0, 0, 0)) (show 6 ≤ _ by have := hw.1; omega) (show _ < h.1 by have := hw.1; omega) hc) (fun r h1 q => ?_)
  obtain ⟨rfl, e9⟩ := q; subst e9
  change mi_WX _ pP X kX9_rot 2 0 0 21 [(0, .ref M), (1, .int x)] [.int 0] (mi_set h M (.inr (9, [.int 0, .ref (M + 1), .ref (M + 2), .ref (M + 3), .ref (M + 4), .int 0, .int 0, .int 0, .int 4, .ref (M + 5), .int 0, .double 0, .int 0, .int 0, .int 0]))) _
  refine mi_if_eq okX9_rot rfl rfl (fun c_21 => ?_) (fun c_21 => absurd (by decide) c_21)
  refine mi_blk okX9_rot 4 (pc' := 30) (lv' := [(3, .int 0), (2, .int 0), (0, .ref M), (1, .int x)]) (st' := []) rfl ?_
  change mi_WX _ pP X kX9_rot 2 0 0 30 [(3, .int (nI 0)), (2, .int 0), (0, .ref M), (1, .int x)] [] (mi_set h M (.inr (9, [.int 0, .ref (M + 1), .ref (M + 2), .ref (M + 3), .ref (M + 4), .int 0, .int 0, .int 0, .int 4, .ref (M + 5), .int 0, .double 0, .int 0, .int 0, .int 0]))) _
  exact lm_rot (h := (mi_set h M (.inr (9, [.int 0, .ref (M + 1), .ref (M + 2), .ref (M + 3), .ref (M + 4), .int 0, .int 0, .int 0, .int 4, .ref (M + 5), .int 0, .double 0, .int 0, .int 0, .int 0])))) (hw.set _) mi_set_self ⟨rfl, mp.set mo_0⟩ 240 0 rfl
