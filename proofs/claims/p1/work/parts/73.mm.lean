-- the reference's methods
abbrev mo_0 : mo_U := (0, 0, 0, 4, 0, 0, 0, 0, 0)
/-- the method has noted this code, and left alone what isn't its own -/
abbrev mp (M : Nat) (h : mi_H) (code : Int32) (h1 : mi_H) : Prop := h.1 ≤ h1.1 ∧ (∃ u, h1.2 M = mo_c M code u) ∧ ∀ b, b < h.1 → (b < M ∨ M + 6 ≤ b) → h1.2 b = h.2 b
/-- only new things -/
abbrev tp (h h1 : mi_H) : Prop := h.1 ≤ h1.1 ∧ ∀ b, b < h.1 → h1.2 b = h.2 b
theorem tp.rf {h : mi_H} : tp h h := ⟨Nat.le_refl _, fun _ _ => rfl⟩
theorem tp.psh {h h1 : mi_H} (a : tp h h1) (c : mi_C) : tp h (mi_psh h1 c) := ⟨Nat.le_succ_of_le a.1, fun b hb => (mi_psh_lt (Nat.lt_of_lt_of_le hb a.1)).trans (a.2 b hb)⟩
theorem tp.tr {h h1 h2 : mi_H} (a : tp h h1) (b : tp h1 h2) : tp h h2 := ⟨Nat.le_trans a.1 b.1, fun x hx => (b.2 x (Nat.lt_of_lt_of_le hx a.1)).trans (a.2 x hx)⟩
theorem mp.set {M : Nat} {h : mi_H} {code : Int32} (u : mo_U) : mp M h code (mi_set h M (mo_c M code u)) := ⟨Nat.le_refl _, ⟨u, mi_set_self⟩, fun b _ hb => mi_set_ne (by omega)⟩
theorem mp.tp {M : Nat} {h h1 h2 : mi_H} {code : Int32} (a : mp M h code h1) (hM : M < h1.1) (b : tp h1 h2) : mp M h code h2 := by
  obtain ⟨u, hu⟩ := a.2.1
  exact ⟨Nat.le_trans a.1 b.1, ⟨u, (b.2 M hM).trans hu⟩, fun x hx hb => (b.2 x (Nat.lt_of_lt_of_le hx a.1)).trans (a.2.2 x hx hb)⟩
set_option maxHeartbeats 4000000 in
set_option maxRecDepth 100000 in
theorem m_session {X : mi_X} {h : mi_H} {M : Nat} (hw : mo_W M h) (hc : h.2 M = mo_c M 0 mo_0) : mi_S pP X kX9_session 2 [.ref M] h 0 0 (fun r h1 => r = some (.int 0) ∧ mp M h 0 h1) := by
  refine enX9_session (Nat.le_of_ble_eq_true rfl) ?_
  refine mi_blk okX9_session 2 (pc' := 2) (lv' := [(0, .ref M)]) (st' := [.ref M, .ref M]) rfl ?_
  refine mi_getf okX9_session rfl fg_RX9_120 (show 6 ≤ _ by have := hw.1; omega) (show _ < h.1 by have := hw.1; omega) hc (v := .int 0) rfl ?_
  refine mi_if_ne okX9_session rfl rfl (fun c_5 => absurd (by decide) c_5) (fun c_5 => ?_)
  refine mi_blk okX9_session 1 (pc' := 9) (lv' := [(0, .ref M)]) (st' := [.ref M, .ref M]) rfl ?_
  refine mi_getf okX9_session rfl fg_RX9_124 (show 6 ≤ _ by have := hw.1; omega) (show _ < h.1 by have := hw.1; omega) hc (v := .int 0) rfl ?_
  refine mi_blk okX9_session 1 (pc' := 13) (lv' := [(0, .ref M)]) (st' := [.int 3, .int 0, .ref M]) rfl ?_
  refine mi_ic_eq okX9_session rfl rfl (fun c_13 => absurd c_13 (by decide)) (fun c_13 => ?_)
  refine mi_blk okX9_session 1 (pc' := 17) (lv' := [(0, .ref M)]) (st' := [.ref M, .ref M]) rfl ?_
  refine mi_getf okX9_session rfl fg_RX9_28 (show 6 ≤ _ by have := hw.1; omega) (show _ < h.1 by have := hw.1; omega) hc (v := .int 4) rfl ?_
  refine mi_if_eq okX9_session rfl rfl (fun c_20 => absurd c_20 (by decide)) (fun c_20 => ?_)
  refine mi_blk okX9_session 1 (pc' := 24) (lv' := [(0, .ref M)]) (st' := [.ref M, .ref M]) rfl ?_
  refine mi_getf okX9_session rfl fg_RX9_127 (show 6 ≤ _ by have := hw.1; omega) (show _ < h.1 by have := hw.1; omega) hc (v := .int 0) rfl ?_
  refine mi_blk okX9_session 3 (pc' := 32) (lv' := [(0, .ref M)]) (st' := [.int 240, .int 4, .ref M]) rfl ?_
  refine mi_ic_le okX9_session rfl rfl (fun c_32 => ?_) (fun c_32 => absurd (by decide) c_32)
  refine mi_blk okX9_session 2 (pc' := 41) (lv' := [(0, .ref M)]) (st' := [.int 1, .int 0, .ref M]) rfl ?_
  refine mi_callV okX9_session (mc := 0) (ms := 0) (mc' := 0) (ms' := 0) (b := M) (As := [.int 0, .int 1]) (st := []) rfl cv_RX9_130 rfl (by decide) (show 6 ≤ _ by have := hw.1; omega) (show _ < h.1 by have := hw.1; omega) hc rfl (Nat.le_of_ble_eq_true rfl) (m_start_0 (h := h) (u := (0, 0, 0, 4, 0, 0, 0, 0, 0)) (show 6 ≤ _ by have := hw.1; omega) (show _ < h.1 by have := hw.1; omega) hc) (fun r h1 q => ?_)
  obtain ⟨rfl, e9⟩ := q; subst e9
  change mi_WX _ pP X kX9_session 2 0 0 44 [(0, .ref M)] [.int 0] (mi_set h M (.inr (9, [.int 0, .ref (M + 1), .ref (M + 2), .ref (M + 3), .ref (M + 4), .int 0, .int 0, .int 0, .int 4, .ref (M + 5), .int 0, .double 0, .int 0, .int 0, .int 0]))) _
  refine mi_if_eq okX9_session rfl rfl (fun c_44 => ?_) (fun c_44 => absurd (by decide) c_44)
  refine mi_blk okX9_session 2 (pc' := 51) (lv' := [(0, .ref M)]) (st' := [.ref M, .ref M]) rfl ?_
  refine mi_getf okX9_session rfl fg_RX9_28 (show 6 ≤ _ by have := hw.1; omega) (show _ < h.1 by have := hw.1; omega) mi_set_self (v := .int 4) rfl ?_
  refine mi_blk okX9_session 2 (pc' := 56) (lv' := [(0, .ref M)]) (st' := [.int 3, .ref M]) rfl ?_
  refine mi_putf' okX9_session rfl fd_RX9_28 (show 6 ≤ _ by have := hw.1; omega) (show _ < h.1 by have := hw.1; omega) mi_set_self (fs' := [.int 0, .ref (M + 1), .ref (M + 2), .ref (M + 3), .ref (M + 4), .int 0, .int 0, .int 0, .int 3, .ref (M + 5), .int 0, .double 0, .int 0, .int 0, .int 0]) rfl (Nat.le_of_ble_eq_true rfl) rfl rfl ?_
  rw [mi_set_set]
  refine mi_blk okX9_session 2 (pc' := 61) (lv' := [(0, .ref M)]) (st' := [.ref M, .ref M]) rfl ?_
  refine mi_getf okX9_session rfl fg_RX9_127 (show 6 ≤ _ by have := hw.1; omega) (show _ < h.1 by have := hw.1; omega) mi_set_self (v := .int 0) rfl ?_
  refine mi_blk okX9_session 2 (pc' := 66) (lv' := [(0, .ref M)]) (st' := [.int 4, .ref M]) rfl ?_
  refine mi_putf' okX9_session rfl fd_RX9_127 (show 6 ≤ _ by have := hw.1; omega) (show _ < h.1 by have := hw.1; omega) mi_set_self (fs' := [.int 0, .ref (M + 1), .ref (M + 2), .ref (M + 3), .ref (M + 4), .int 0, .int 0, .int 4, .int 3, .ref (M + 5), .int 0, .double 0, .int 0, .int 0, .int 0]) rfl (Nat.le_of_ble_eq_true rfl) rfl rfl ?_
  rw [mi_set_set]
  refine mi_blk okX9_session 2 (pc' := 71) (lv' := [(0, .ref M)]) (st' := [.int 1, .ref M]) rfl ?_
  refine mi_putf' okX9_session rfl fd_RX9_120 (show 6 ≤ _ by have := hw.1; omega) (show _ < h.1 by have := hw.1; omega) mi_set_self (fs' := [.int 0, .ref (M + 1), .ref (M + 2), .ref (M + 3), .ref (M + 4), .int 0, .int 1, .int 4, .int 3, .ref (M + 5), .int 0, .double 0, .int 0, .int 0, .int 0]) rfl (Nat.le_of_ble_eq_true rfl) rfl rfl ?_
  rw [mi_set_set]
  refine mi_blk okX9_session 2 (pc' := 76) (lv' := [(0, .ref M)]) (st' := [.ref M, .ref M]) rfl ?_
  refine mi_getf okX9_session rfl fg_RX9_124 (show 6 ≤ _ by have := hw.1; omega) (show _ < h.1 by have := hw.1; omega) mi_set_self (v := .int 0) rfl ?_
  refine mi_blk okX9_session 2 (pc' := 81) (lv' := [(0, .ref M)]) (st' := [.int 1, .ref M]) rfl ?_
  refine mi_putf' okX9_session rfl fd_RX9_124 (show 6 ≤ _ by have := hw.1; omega) (show _ < h.1 by have := hw.1; omega) mi_set_self (fs' := [.int 0, .ref (M + 1), .ref (M + 2), .ref (M + 3), .ref (M + 4), .int 1, .int 1, .int 4, .int 3, .ref (M + 5), .int 0, .double 0, .int 0, .int 0, .int 0]) rfl (Nat.le_of_ble_eq_true rfl) rfl rfl ?_
  rw [mi_set_set]
  refine mi_blk okX9_session 1 (pc' := 85) (lv' := [(0, .ref M)]) (st' := [.ref M]) rfl ?_
  refine mi_getf okX9_session rfl fg_RX9_124 (show 6 ≤ _ by have := hw.1; omega) (show _ < h.1 by have := hw.1; omega) mi_set_self (v := .int 1) rfl ?_
  refine mi_blk okX9_session 2 (pc' := 90) (lv' := [(0, .ref M)]) (st' := [.int 0]) rfl ?_
  exact mi_ret_i okX9_session rfl rfl rfl ⟨rfl, mp.set (1, 1, 4, 3, 0, 0, 0, 0, 0)⟩
set_option maxHeartbeats 4000000 in
set_option maxRecDepth 100000 in
theorem m_track_a {X : mi_X} {h : mi_H} {M : Nat} (hw : mo_W M h) (hc : h.2 M = mo_c M 0 mo_0) {x y : Int32} (hx : x < 0 ∨ 1 < x) : mi_S pP X kX9_track 2 [.ref M, .int x, .int y] h 0 0 (fun r h1 => r = some (.int 0) ∧ mp M h 1 h1) := by
  refine enX9_track (Nat.le_of_ble_eq_true rfl) ?_
  refine mi_blk okX9_track 4 (pc' := 4) (lv' := [(0, .ref M), (1, .int x), (2, .int y)]) (st' := [.int 1, .int 0, .int x, .ref M]) rfl ?_
  refine mi_callS okX9_track (mc := 0) (ms := 0) (mc' := 0) (ms' := 0) (As := [.int x, .int 0, .int 1]) (st := [.ref M]) rfl cs_RX9_46 rfl (by decide) (Nat.le_of_ble_eq_true rfl) (m_isIn_0 hx) (fun r h1 q => ?_)
  obtain ⟨rfl, e9⟩ := q; have e9 := e9.symm; subst e9
  change mi_WX _ pP X kX9_track 2 0 0 7 [(0, .ref M), (1, .int x), (2, .int y)] [.int 0, .ref M] h _
  refine mi_if_eq okX9_track rfl rfl (fun c_7 => ?_) (fun c_7 => absurd (by decide) c_7)
  refine mi_blk okX9_track 3 (pc' := 26) (lv' := [(0, .ref M), (1, .int x), (2, .int y)]) (st' := [.int 1, .int 1, .ref M]) rfl ?_
  refine mi_callV okX9_track (mc := 0) (ms := 0) (mc' := 0) (ms' := 0) (b := M) (As := [.int 1, .int 1]) (st := []) rfl cv_RX9_130 rfl (by decide) (show 6 ≤ _ by have := hw.1; omega) (show _ < h.1 by have := hw.1; omega) hc rfl (Nat.le_of_ble_eq_true rfl) (m_start_1 (h := h) (u := (0, 0, 0, 4, 0, 0, 0, 0, 0)) (show 6 ≤ _ by have := hw.1; omega) (show _ < h.1 by have := hw.1; omega) hc (by decide)) (fun r h1 q => ?_)
  obtain ⟨rfl, e9⟩ := q; subst e9
  change mi_WX _ pP X kX9_track 2 0 0 29 [(0, .ref M), (1, .int x), (2, .int y)] [.int 1] (mi_set h M (.inr (9, [.int 1, .ref (M + 1), .ref (M + 2), .ref (M + 3), .ref (M + 4), .int 0, .int 0, .int 0, .int 4, .ref (M + 5), .int 0, .double 0, .int 0, .int 0, .int 0]))) _
  refine mi_if_ne okX9_track rfl rfl (fun c_29 => ?_) (fun c_29 => absurd c_29 (by decide))
  refine mi_blk okX9_track 1 (pc' := 79) (lv' := [(0, .ref M), (1, .int x), (2, .int y)]) (st' := [.int 0]) rfl ?_
  exact mi_ret_i okX9_track rfl rfl rfl ⟨rfl, mp.set (0, 0, 0, 4, 0, 0, 0, 0, 0)⟩
set_option maxHeartbeats 4000000 in
set_option maxRecDepth 100000 in
theorem m_track_b {X : mi_X} {h : mi_H} {M : Nat} (hw : mo_W M h) (hc : h.2 M = mo_c M 0 mo_0) {x y : Int32} (h1 : ¬ x < 0) (h2 : ¬ 1 < x) (hy : y < 1 ∨ 40 < y) : mi_S pP X kX9_track 2 [.ref M, .int x, .int y] h 0 0 (fun r h1 => r = some (.int 0) ∧ mp M h 1 h1) := by
  refine enX9_track (Nat.le_of_ble_eq_true rfl) ?_
  refine mi_blk okX9_track 4 (pc' := 4) (lv' := [(0, .ref M), (1, .int x), (2, .int y)]) (st' := [.int 1, .int 0, .int x, .ref M]) rfl ?_
  refine mi_callS okX9_track (mc := 0) (ms := 0) (mc' := 0) (ms' := 0) (As := [.int x, .int 0, .int 1]) (st := [.ref M]) rfl cs_RX9_46 rfl (by decide) (Nat.le_of_ble_eq_true rfl) (m_isIn_1 h1 h2) (fun r h1 q => ?_)
  obtain ⟨rfl, e9⟩ := q; have e9 := e9.symm; subst e9
  change mi_WX _ pP X kX9_track 2 0 0 7 [(0, .ref M), (1, .int x), (2, .int y)] [.int 1, .ref M] h _
  refine mi_if_eq okX9_track rfl rfl (fun c_7 => absurd c_7 (by decide)) (fun c_7 => ?_)
  refine mi_blk okX9_track 3 (pc' := 14) (lv' := [(0, .ref M), (1, .int x), (2, .int y)]) (st' := [.int 40, .int 1, .int y, .ref M]) rfl ?_
  refine mi_callS okX9_track (mc := 0) (ms := 0) (mc' := 0) (ms' := 0) (As := [.int y, .int 1, .int 40]) (st := [.ref M]) rfl cs_RX9_46 rfl (by decide) (Nat.le_of_ble_eq_true rfl) (m_isIn_0 hy) (fun r h1 q => ?_)
  obtain ⟨rfl, e9⟩ := q; have e9 := e9.symm; subst e9
  change mi_WX _ pP X kX9_track 2 0 0 17 [(0, .ref M), (1, .int x), (2, .int y)] [.int 0, .ref M] h _
  refine mi_if_ne okX9_track rfl rfl (fun c_17 => absurd (by decide) c_17) (fun c_17 => ?_)
  refine mi_blk okX9_track 3 (pc' := 26) (lv' := [(0, .ref M), (1, .int x), (2, .int y)]) (st' := [.int 1, .int 1, .ref M]) rfl ?_
  refine mi_callV okX9_track (mc := 0) (ms := 0) (mc' := 0) (ms' := 0) (b := M) (As := [.int 1, .int 1]) (st := []) rfl cv_RX9_130 rfl (by decide) (show 6 ≤ _ by have := hw.1; omega) (show _ < h.1 by have := hw.1; omega) hc rfl (Nat.le_of_ble_eq_true rfl) (m_start_1 (h := h) (u := (0, 0, 0, 4, 0, 0, 0, 0, 0)) (show 6 ≤ _ by have := hw.1; omega) (show _ < h.1 by have := hw.1; omega) hc (by decide)) (fun r h1 q => ?_)
  obtain ⟨rfl, e9⟩ := q; subst e9
  change mi_WX _ pP X kX9_track 2 0 0 29 [(0, .ref M), (1, .int x), (2, .int y)] [.int 1] (mi_set h M (.inr (9, [.int 1, .ref (M + 1), .ref (M + 2), .ref (M + 3), .ref (M + 4), .int 0, .int 0, .int 0, .int 4, .ref (M + 5), .int 0, .double 0, .int 0, .int 0, .int 0]))) _
  refine mi_if_ne okX9_track rfl rfl (fun c_29 => ?_) (fun c_29 => absurd c_29 (by decide))
  refine mi_blk okX9_track 1 (pc' := 79) (lv' := [(0, .ref M), (1, .int x), (2, .int y)]) (st' := [.int 0]) rfl ?_
  exact mi_ret_i okX9_track rfl rfl rfl ⟨rfl, mp.set (0, 0, 0, 4, 0, 0, 0, 0, 0)⟩
set_option maxHeartbeats 4000000 in
set_option maxRecDepth 100000 in
theorem m_track_s {X : mi_X} {h : mi_H} {M : Nat} (hw : mo_W M h) (hc : h.2 M = mo_c M 0 mo_0) {x y : Int32} (h1 : ¬ x < 0) (h2 : ¬ 1 < x) (h3 : ¬ y < 1) (h4 : ¬ 40 < y) : mi_S pP X kX9_track 2 [.ref M, .int x, .int y] h 0 0 (fun r h1 => r = some (.int 0) ∧ mp M h 2 h1) := by
  refine enX9_track (Nat.le_of_ble_eq_true rfl) ?_
  refine mi_blk okX9_track 4 (pc' := 4) (lv' := [(0, .ref M), (1, .int x), (2, .int y)]) (st' := [.int 1, .int 0, .int x, .ref M]) rfl ?_
  refine mi_callS okX9_track (mc := 0) (ms := 0) (mc' := 0) (ms' := 0) (As := [.int x, .int 0, .int 1]) (st := [.ref M]) rfl cs_RX9_46 rfl (by decide) (Nat.le_of_ble_eq_true rfl) (m_isIn_1 h1 h2) (fun r h1 q => ?_)
  obtain ⟨rfl, e9⟩ := q; have e9 := e9.symm; subst e9
  change mi_WX _ pP X kX9_track 2 0 0 7 [(0, .ref M), (1, .int x), (2, .int y)] [.int 1, .ref M] h _
  refine mi_if_eq okX9_track rfl rfl (fun c_7 => absurd c_7 (by decide)) (fun c_7 => ?_)
  refine mi_blk okX9_track 3 (pc' := 14) (lv' := [(0, .ref M), (1, .int x), (2, .int y)]) (st' := [.int 40, .int 1, .int y, .ref M]) rfl ?_
  refine mi_callS okX9_track (mc := 0) (ms := 0) (mc' := 0) (ms' := 0) (As := [.int y, .int 1, .int 40]) (st := [.ref M]) rfl cs_RX9_46 rfl (by decide) (Nat.le_of_ble_eq_true rfl) (m_isIn_1 h3 h4) (fun r h1 q => ?_)
  obtain ⟨rfl, e9⟩ := q; have e9 := e9.symm; subst e9
  change mi_WX _ pP X kX9_track 2 0 0 17 [(0, .ref M), (1, .int x), (2, .int y)] [.int 1, .ref M] h _
  refine mi_if_ne okX9_track rfl rfl (fun c_17 => ?_) (fun c_17 => absurd c_17 (by decide))
  refine mi_blk okX9_track 2 (pc' := 26) (lv' := [(0, .ref M), (1, .int x), (2, .int y)]) (st' := [.int 1, .int 0, .ref M]) rfl ?_
  refine mi_callV okX9_track (mc := 0) (ms := 0) (mc' := 0) (ms' := 0) (b := M) (As := [.int 0, .int 1]) (st := []) rfl cv_RX9_130 rfl (by decide) (show 6 ≤ _ by have := hw.1; omega) (show _ < h.1 by have := hw.1; omega) hc rfl (Nat.le_of_ble_eq_true rfl) (m_start_0 (h := h) (u := (0, 0, 0, 4, 0, 0, 0, 0, 0)) (show 6 ≤ _ by have := hw.1; omega) (show _ < h.1 by have := hw.1; omega) hc) (fun r h1 q => ?_)
  obtain ⟨rfl, e9⟩ := q; subst e9
  change mi_WX _ pP X kX9_track 2 0 0 29 [(0, .ref M), (1, .int x), (2, .int y)] [.int 0] (mi_set h M (.inr (9, [.int 0, .ref (M + 1), .ref (M + 2), .ref (M + 3), .ref (M + 4), .int 0, .int 0, .int 0, .int 4, .ref (M + 5), .int 0, .double 0, .int 0, .int 0, .int 0]))) _
  refine mi_if_ne okX9_track rfl rfl (fun c_29 => absurd (by decide) c_29) (fun c_29 => ?_)
  refine mi_blk okX9_track 2 (pc' := 34) (lv' := [(0, .ref M), (1, .int x), (2, .int y)]) (st' := [.ref M, .ref M]) rfl ?_
  refine mi_getf okX9_track rfl fg_RX9_120 (show 6 ≤ _ by have := hw.1; omega) (show _ < h.1 by have := hw.1; omega) mi_set_self (v := .int 0) rfl ?_
  refine mi_if_eq okX9_track rfl rfl (fun c_37 => ?_) (fun c_37 => absurd (by decide) c_37)
  refine mi_blk okX9_track 3 (pc' := 72) (lv' := [(0, .ref M), (1, .int x), (2, .int y)]) (st' := [.int 2, .int 1, .ref M]) rfl ?_
  refine mi_callV okX9_track (mc := 0) (ms := 0) (mc' := 0) (ms' := 0) (b := M) (As := [.int 1, .int 2]) (st := []) rfl cv_RX9_38 rfl (by decide) (show 6 ≤ _ by have := hw.1; omega) (show _ < h.1 by have := hw.1; omega) mi_set_self rfl (Nat.le_of_ble_eq_true rfl) (m_refuse_1 (h := (mi_set h M (.inr (9, [.int 0, .ref (M + 1), .ref (M + 2), .ref (M + 3), .ref (M + 4), .int 0, .int 0, .int 0, .int 4, .ref (M + 5), .int 0, .double 0, .int 0, .int 0, .int 0])))) (u := (0, 0, 0, 4, 0, 0, 0, 0, 0)) (show 6 ≤ _ by have := hw.1; omega) (show _ < h.1 by have := hw.1; omega) mi_set_self (by decide)) (fun r h1 q => ?_)
  obtain ⟨rfl, e9⟩ := q; rw [mi_set_set] at e9; subst e9
  change mi_WX _ pP X kX9_track 2 0 0 75 [(0, .ref M), (1, .int x), (2, .int y)] [.int 1] (mi_set h M (.inr (9, [.int 2, .ref (M + 1), .ref (M + 2), .ref (M + 3), .ref (M + 4), .int 0, .int 0, .int 0, .int 4, .ref (M + 5), .int 0, .double 0, .int 0, .int 0, .int 0]))) _
  refine mi_if_eq okX9_track rfl rfl (fun c_75 => absurd c_75 (by decide)) (fun c_75 => ?_)
  refine mi_blk okX9_track 1 (pc' := 79) (lv' := [(0, .ref M), (1, .int x), (2, .int y)]) (st' := [.int 0]) rfl ?_
  exact mi_ret_i okX9_track rfl rfl rfl ⟨rfl, mp.set (0, 0, 0, 4, 0, 0, 0, 0, 0)⟩
set_option maxHeartbeats 4000000 in
set_option maxRecDepth 100000 in
theorem m_write {X : mi_X} {h : mi_H} {M : Nat} (hw : mo_W M h) (hc : h.2 M = mo_c M 0 mo_0) {x : Int32} {n : Int64} : mi_S pP X kX9_write 2 [.ref M, .int x, .long n] h 0 0 (fun r h1 => r = some (.int 0) ∧ mp M h 1 h1) := by
  refine enX9_write (Nat.le_of_ble_eq_true rfl) ?_
  refine mi_blk okX9_write 3 (pc' := 3) (lv' := [(0, .ref M), (1, .int x), (2, .long n)]) (st' := [.int x, .ref M, .ref M]) rfl ?_
  refine mi_callV okX9_write (mc := 0) (ms := 0) (mc' := 0) (ms' := 0) (b := M) (As := [.int x]) (st := [.ref M]) rfl cv_RX9_137 rfl (by decide) (show 6 ≤ _ by have := hw.1; omega) (show _ < h.1 by have := hw.1; omega) hc rfl (Nat.le_of_ble_eq_true rfl) (m_isNoTrack hw hc) (fun r h1 q => ?_)
  obtain ⟨rfl, e9⟩ := q; have e9 := e9.symm; subst e9
  change mi_WX _ pP X kX9_write 2 0 0 6 [(0, .ref M), (1, .int x), (2, .long n)] [.int 1, .ref M] h _
  refine mi_blk okX9_write 1 (pc' := 7) (lv' := [(0, .ref M), (1, .int x), (2, .long n)]) (st' := [.int 1, .int 1, .ref M]) rfl ?_
  refine mi_callV okX9_write (mc := 0) (ms := 0) (mc' := 0) (ms' := 0) (b := M) (As := [.int 1, .int 1]) (st := []) rfl cv_RX9_130 rfl (by decide) (show 6 ≤ _ by have := hw.1; omega) (show _ < h.1 by have := hw.1; omega) hc rfl (Nat.le_of_ble_eq_true rfl) (m_start_1 (h := h) (u := (0, 0, 0, 4, 0, 0, 0, 0, 0)) (show 6 ≤ _ by have := hw.1; omega) (show _ < h.1 by have := hw.1; omega) hc (by decide)) (fun r h1 q => ?_)
  obtain ⟨rfl, e9⟩ := q; subst e9
  change mi_WX _ pP X kX9_write 2 0 0 10 [(0, .ref M), (1, .int x), (2, .long n)] [.int 1] (mi_set h M (.inr (9, [.int 1, .ref (M + 1), .ref (M + 2), .ref (M + 3), .ref (M + 4), .int 0, .int 0, .int 0, .int 4, .ref (M + 5), .int 0, .double 0, .int 0, .int 0, .int 0]))) _
  refine mi_if_ne okX9_write rfl rfl (fun c_10 => ?_) (fun c_10 => absurd c_10 (by decide))
  refine mi_blk okX9_write 1 (pc' := 54) (lv' := [(0, .ref M), (1, .int x), (2, .long n)]) (st' := [.int 0]) rfl ?_
  exact mi_ret_i okX9_write rfl rfl rfl ⟨rfl, mp.set (0, 0, 0, 4, 0, 0, 0, 0, 0)⟩
set_option maxHeartbeats 4000000 in
set_option maxRecDepth 100000 in
theorem m_starve {X : mi_X} {h : mi_H} {M : Nat} (hw : mo_W M h) (hc : h.2 M = mo_c M 0 mo_0) {x : Int32} : mi_S pP X kX9_starve 2 [.ref M, .int x] h 0 0 (fun r h1 => r = some (.int 0) ∧ mp M h 1 h1) := by
  refine enX9_starve (Nat.le_of_ble_eq_true rfl) ?_
  refine mi_blk okX9_starve 3 (pc' := 3) (lv' := [(0, .ref M), (1, .int x)]) (st' := [.int x, .ref M, .ref M]) rfl ?_
  refine mi_callV okX9_starve (mc := 0) (ms := 0) (mc' := 0) (ms' := 0) (b := M) (As := [.int x]) (st := [.ref M]) rfl cv_RX9_137 rfl (by decide) (show 6 ≤ _ by have := hw.1; omega) (show _ < h.1 by have := hw.1; omega) hc rfl (Nat.le_of_ble_eq_true rfl) (m_isNoTrack hw hc) (fun r h1 q => ?_)
  obtain ⟨rfl, e9⟩ := q; have e9 := e9.symm; subst e9
  change mi_WX _ pP X kX9_starve 2 0 0 6 [(0, .ref M), (1, .int x)] [.int 1, .ref M] h _
  refine mi_blk okX9_starve 1 (pc' := 7) (lv' := [(0, .ref M), (1, .int x)]) (st' := [.int 1, .int 1, .ref M]) rfl ?_
  refine mi_callV okX9_starve (mc := 0) (ms := 0) (mc' := 0) (ms' := 0) (b := M) (As := [.int 1, .int 1]) (st := []) rfl cv_RX9_130 rfl (by decide) (show 6 ≤ _ by have := hw.1; omega) (show _ < h.1 by have := hw.1; omega) hc rfl (Nat.le_of_ble_eq_true rfl) (m_start_1 (h := h) (u := (0, 0, 0, 4, 0, 0, 0, 0, 0)) (show 6 ≤ _ by have := hw.1; omega) (show _ < h.1 by have := hw.1; omega) hc (by decide)) (fun r h1 q => ?_)
  obtain ⟨rfl, e9⟩ := q; subst e9
  change mi_WX _ pP X kX9_starve 2 0 0 10 [(0, .ref M), (1, .int x)] [.int 1] (mi_set h M (.inr (9, [.int 1, .ref (M + 1), .ref (M + 2), .ref (M + 3), .ref (M + 4), .int 0, .int 0, .int 0, .int 4, .ref (M + 5), .int 0, .double 0, .int 0, .int 0, .int 0]))) _
  refine mi_if_ne okX9_starve rfl rfl (fun c_10 => ?_) (fun c_10 => absurd c_10 (by decide))
  refine mi_blk okX9_starve 1 (pc' := 42) (lv' := [(0, .ref M), (1, .int x)]) (st' := [.int 0]) rfl ?_
  exact mi_ret_i okX9_starve rfl rfl rfl ⟨rfl, mp.set (0, 0, 0, 4, 0, 0, 0, 0, 0)⟩
set_option maxHeartbeats 4000000 in
set_option maxRecDepth 100000 in
theorem m_close {X : mi_X} {h : mi_H} {M : Nat} (hw : mo_W M h) (hc : h.2 M = mo_c M 0 mo_0) {x : Int32} : mi_S pP X kX9_close 2 [.ref M, .int x] h 0 0 (fun r h1 => r = some (.int 0) ∧ mp M h 1 h1) := by
  refine enX9_close (Nat.le_of_ble_eq_true rfl) ?_
  refine mi_blk okX9_close 3 (pc' := 3) (lv' := [(0, .ref M), (1, .int x)]) (st' := [.int x, .ref M, .ref M]) rfl ?_
  refine mi_callV okX9_close (mc := 0) (ms := 0) (mc' := 0) (ms' := 0) (b := M) (As := [.int x]) (st := [.ref M]) rfl cv_RX9_137 rfl (by decide) (show 6 ≤ _ by have := hw.1; omega) (show _ < h.1 by have := hw.1; omega) hc rfl (Nat.le_of_ble_eq_true rfl) (m_isNoTrack hw hc) (fun r h1 q => ?_)
  obtain ⟨rfl, e9⟩ := q; have e9 := e9.symm; subst e9
  change mi_WX _ pP X kX9_close 2 0 0 6 [(0, .ref M), (1, .int x)] [.int 1, .ref M] h _
  refine mi_blk okX9_close 1 (pc' := 7) (lv' := [(0, .ref M), (1, .int x)]) (st' := [.int 1, .int 1, .ref M]) rfl ?_
  refine mi_callV okX9_close (mc := 0) (ms := 0) (mc' := 0) (ms' := 0) (b := M) (As := [.int 1, .int 1]) (st := []) rfl cv_RX9_130 rfl (by decide) (show 6 ≤ _ by have := hw.1; omega) (show _ < h.1 by have := hw.1; omega) hc rfl (Nat.le_of_ble_eq_true rfl) (m_start_1 (h := h) (u := (0, 0, 0, 4, 0, 0, 0, 0, 0)) (show 6 ≤ _ by have := hw.1; omega) (show _ < h.1 by have := hw.1; omega) hc (by decide)) (fun r h1 q => ?_)
  obtain ⟨rfl, e9⟩ := q; subst e9
  change mi_WX _ pP X kX9_close 2 0 0 10 [(0, .ref M), (1, .int x)] [.int 1] (mi_set h M (.inr (9, [.int 1, .ref (M + 1), .ref (M + 2), .ref (M + 3), .ref (M + 4), .int 0, .int 0, .int 0, .int 4, .ref (M + 5), .int 0, .double 0, .int 0, .int 0, .int 0]))) _
  refine mi_if_ne okX9_close rfl rfl (fun c_10 => ?_) (fun c_10 => absurd c_10 (by decide))
  refine mi_blk okX9_close 1 (pc' := 45) (lv' := [(0, .ref M), (1, .int x)]) (st' := [.int 0]) rfl ?_
  exact mi_ret_i okX9_close rfl rfl rfl ⟨rfl, mp.set (0, 0, 0, 4, 0, 0, 0, 0, 0)⟩
set_option maxHeartbeats 4000000 in
set_option maxRecDepth 100000 in
theorem m_tray {X : mi_X} {h : mi_H} {M : Nat} (hw : mo_W M h) (hc : h.2 M = mo_c M 0 mo_0) {v : Int32} (hv : v = 0 ∨ v = 1) : mi_S pP X kX9_tray 0 [.ref M, .int v] h 0 0 (fun r h1 => r = some (.int 0) ∧ mp M h 0 h1) := by
  refine enX9_tray (Nat.le_of_ble_eq_true rfl) ?_
  refine mi_blk okX9_tray 2 (pc' := 2) (lv' := [(0, .ref M), (1, .int v)]) (st' := [.int 0, .ref M]) rfl ?_
  refine mi_putf' okX9_tray rfl fd_RX9_35 (show 6 ≤ _ by have := hw.1; omega) (show _ < h.1 by have := hw.1; omega) hc (fs' := [.int 0, .ref (M + 1), .ref (M + 2), .ref (M + 3), .ref (M + 4), .int 0, .int 0, .int 0, .int 4, .ref (M + 5), .int 0, .double 0, .int 0, .int 0, .int 0]) rfl (Nat.le_of_ble_eq_true rfl) rfl rfl ?_
  refine mi_blk okX9_tray 1 (pc' := 6) (lv' := [(0, .ref M), (1, .int v)]) (st' := [.ref M]) rfl ?_
  refine mi_getf okX9_tray rfl fg_RX9_178 (show 6 ≤ _ by have := hw.1; omega) (show _ < h.1 by have := hw.1; omega) mi_set_self (v := .int 0) rfl ?_
  refine mi_blk okX9_tray 3 (pc' := 12) (lv' := [(2, .int 0), (0, .ref M), (1, .int v)]) (st' := [.int v, .ref M]) rfl ?_
  refine mi_putf' okX9_tray rfl fd_RX9_178 (show 6 ≤ _ by have := hw.1; omega) (show _ < h.1 by have := hw.1; omega) mi_set_self (fs' := [.int 0, .ref (M + 1), .ref (M + 2), .ref (M + 3), .ref (M + 4), .int 0, .int 0, .int 0, .int 4, .ref (M + 5), .int 0, .double 0, .int 0, .int v, .int 0]) rfl (Nat.le_of_ble_eq_true rfl) (by rcases hv with rfl | rfl <;> rfl) (by rcases hv with rfl | rfl <;> rfl) ?_
  rw [mi_set_set]
  refine mi_blk okX9_tray 1 (pc' := 16) (lv' := [(2, .int 0), (0, .ref M), (1, .int v)]) (st' := [.int 0]) rfl ?_
  exact mi_ret_i okX9_tray rfl rfl rfl ⟨rfl, mp.set (0, 0, 0, 4, 0, 0, 0, v, 0)⟩
set_option maxHeartbeats 4000000 in
set_option maxRecDepth 100000 in
theorem m_push {X : mi_X} {h : mi_H} {M : Nat} (hw : mo_W M h) (hc : h.2 M = mo_c M 0 mo_0) : mi_S pP X kX9_push 0 [.ref M] h 0 0 (fun r h1 => r = some (.int 1) ∧ mp M h 0 h1) := by
  refine enX9_push (Nat.le_of_ble_eq_true rfl) ?_
  refine mi_blk okX9_push 2 (pc' := 2) (lv' := [(0, .ref M)]) (st' := [.int 0, .ref M]) rfl ?_
  refine mi_putf' okX9_push rfl fd_RX9_35 (show 6 ≤ _ by have := hw.1; omega) (show _ < h.1 by have := hw.1; omega) hc (fs' := [.int 0, .ref (M + 1), .ref (M + 2), .ref (M + 3), .ref (M + 4), .int 0, .int 0, .int 0, .int 4, .ref (M + 5), .int 0, .double 0, .int 0, .int 0, .int 0]) rfl (Nat.le_of_ble_eq_true rfl) rfl rfl ?_
  refine mi_blk okX9_push 2 (pc' := 7) (lv' := [(0, .ref M)]) (st' := [.ref M, .ref M]) rfl ?_
  refine mi_getf okX9_push rfl fg_RX9_181 (show 6 ≤ _ by have := hw.1; omega) (show _ < h.1 by have := hw.1; omega) mi_set_self (v := .int 0) rfl ?_
  refine mi_blk okX9_push 2 (pc' := 12) (lv' := [(0, .ref M)]) (st' := [.int 1, .ref M]) rfl ?_
  refine mi_putf' okX9_push rfl fd_RX9_181 (show 6 ≤ _ by have := hw.1; omega) (show _ < h.1 by have := hw.1; omega) mi_set_self (fs' := [.int 0, .ref (M + 1), .ref (M + 2), .ref (M + 3), .ref (M + 4), .int 0, .int 0, .int 0, .int 4, .ref (M + 5), .int 0, .double 0, .int 0, .int 0, .int 1]) rfl (Nat.le_of_ble_eq_true rfl) rfl rfl ?_
  rw [mi_set_set]
  refine mi_blk okX9_push 1 (pc' := 16) (lv' := [(0, .ref M)]) (st' := [.ref M]) rfl ?_
  refine mi_getf okX9_push rfl fg_RX9_181 (show 6 ≤ _ by have := hw.1; omega) (show _ < h.1 by have := hw.1; omega) mi_set_self (v := .int 1) rfl ?_
  exact mi_ret_i okX9_push rfl rfl rfl ⟨rfl, mp.set (0, 0, 0, 4, 0, 0, 0, 0, 1)⟩
set_option maxHeartbeats 4000000 in
set_option maxRecDepth 100000 in
theorem m_clock {X : mi_X} {h : mi_H} {M : Nat} (hw : mo_W M h) (hc : h.2 M = mo_c M 0 mo_0) : mi_S pP X kX9_clock 0 [.ref M] h 0 0 (fun r h1 => r = some (.double 0) ∧ mp M h 0 h1) := by
  refine enX9_clock (Nat.le_of_ble_eq_true rfl) ?_
  refine mi_blk okX9_clock 2 (pc' := 2) (lv' := [(0, .ref M)]) (st' := [.int 0, .ref M]) rfl ?_
  refine mi_putf' okX9_clock rfl fd_RX9_35 (show 6 ≤ _ by have := hw.1; omega) (show _ < h.1 by have := hw.1; omega) hc (fs' := [.int 0, .ref (M + 1), .ref (M + 2), .ref (M + 3), .ref (M + 4), .int 0, .int 0, .int 0, .int 4, .ref (M + 5), .int 0, .double 0, .int 0, .int 0, .int 0]) rfl (Nat.le_of_ble_eq_true rfl) rfl rfl ?_
  refine mi_blk okX9_clock 1 (pc' := 6) (lv' := [(0, .ref M)]) (st' := [.ref M]) rfl ?_
  refine mi_getf okX9_clock rfl fg_RX9_197 (show 6 ≤ _ by have := hw.1; omega) (show _ < h.1 by have := hw.1; omega) mi_set_self (v := .double 0) rfl ?_
  exact mi_ret_d okX9_clock rfl rfl ⟨rfl, mp.set (0, 0, 0, 4, 0, 0, 0, 0, 0)⟩
set_option maxHeartbeats 4000000 in
set_option maxRecDepth 100000 in
theorem m_read_s {X : mi_X} {h : mi_H} {M : Nat} (hw : mo_W M h) (hc : h.2 M = mo_c M 0 mo_0) {x : Int32} (hx : x < 0 ∨ nI 240 ≤ x) : mi_S pP X kX9_read 2 [.ref M, .int x] h 0 0 (fun r h1 => r = some (.int 0) ∧ mp M h 1 h1) := by
  refine enX9_read (Nat.le_of_ble_eq_true rfl) ?_
  refine mi_blk okX9_read 2 (pc' := 2) (lv' := [(0, .ref M), (1, .int x)]) (st' := [.int x, .ref M]) rfl ?_
  refine mi_callS okX9_read (mc := 0) (ms := 0) (mc' := 0) (ms' := 0) (As := [.int x]) (st := [.ref M]) rfl cs_RX9_166 rfl (by decide) (Nat.le_of_ble_eq_true rfl) (m_isNoSector_1 hx) (fun r h1 q => ?_)
  obtain ⟨rfl, e9⟩ := q; have e9 := e9.symm; subst e9
  change mi_WX _ pP X kX9_read 2 0 0 5 [(0, .ref M), (1, .int x)] [.int 1, .ref M] h _
  refine mi_blk okX9_read 1 (pc' := 6) (lv' := [(0, .ref M), (1, .int x)]) (st' := [.int 1, .int 1, .ref M]) rfl ?_
  refine mi_callV okX9_read (mc := 0) (ms := 0) (mc' := 0) (ms' := 0) (b := M) (As := [.int 1, .int 1]) (st := []) rfl cv_RX9_130 rfl (by decide) (show 6 ≤ _ by have := hw.1; omega) (show _ < h.1 by have := hw.1; omega) hc rfl (Nat.le_of_ble_eq_true rfl) (m_start_1 (h := h) (u := (0, 0, 0, 4, 0, 0, 0, 0, 0)) (show 6 ≤ _ by have := hw.1; omega) (show _ < h.1 by have := hw.1; omega) hc (by decide)) (fun r h1 q => ?_)
  obtain ⟨rfl, e9⟩ := q; subst e9
  change mi_WX _ pP X kX9_read 2 0 0 9 [(0, .ref M), (1, .int x)] [.int 1] (mi_set h M (.inr (9, [.int 1, .ref (M + 1), .ref (M + 2), .ref (M + 3), .ref (M + 4), .int 0, .int 0, .int 0, .int 4, .ref (M + 5), .int 0, .double 0, .int 0, .int 0, .int 0]))) _
  refine mi_if_ne okX9_read rfl rfl (fun c_9 => ?_) (fun c_9 => absurd c_9 (by decide))
  refine mi_blk okX9_read 1 (pc' := 25) (lv' := [(0, .ref M), (1, .int x)]) (st' := [.int 0]) rfl ?_
  exact mi_ret_i okX9_read rfl rfl rfl ⟨rfl, mp.set (0, 0, 0, 4, 0, 0, 0, 0, 0)⟩
set_option maxHeartbeats 4000000 in
set_option maxRecDepth 100000 in
theorem m_seek_s {X : mi_X} {h : mi_H} {M : Nat} (hw : mo_W M h) (hc : h.2 M = mo_c M 0 mo_0) {x : Int32} (hx : x < 0 ∨ nI 240 ≤ x) : mi_S pP X kX9_seek 2 [.ref M, .int x] h 0 0 (fun r h1 => r = some (.double FP.dconst0) ∧ mp M h 1 h1) := by
  refine enX9_seek (Nat.le_of_ble_eq_true rfl) ?_
  refine mi_blk okX9_seek 2 (pc' := 2) (lv' := [(0, .ref M), (1, .int x)]) (st' := [.int x, .ref M]) rfl ?_
  refine mi_callS okX9_seek (mc := 0) (ms := 0) (mc' := 0) (ms' := 0) (As := [.int x]) (st := [.ref M]) rfl cs_RX9_166 rfl (by decide) (Nat.le_of_ble_eq_true rfl) (m_isNoSector_1 hx) (fun r h1 q => ?_)
  obtain ⟨rfl, e9⟩ := q; have e9 := e9.symm; subst e9
  change mi_WX _ pP X kX9_seek 2 0 0 5 [(0, .ref M), (1, .int x)] [.int 1, .ref M] h _
  refine mi_blk okX9_seek 1 (pc' := 6) (lv' := [(0, .ref M), (1, .int x)]) (st' := [.int 1, .int 1, .ref M]) rfl ?_
  refine mi_callV okX9_seek (mc := 0) (ms := 0) (mc' := 0) (ms' := 0) (b := M) (As := [.int 1, .int 1]) (st := []) rfl cv_RX9_130 rfl (by decide) (show 6 ≤ _ by have := hw.1; omega) (show _ < h.1 by have := hw.1; omega) hc rfl (Nat.le_of_ble_eq_true rfl) (m_start_1 (h := h) (u := (0, 0, 0, 4, 0, 0, 0, 0, 0)) (show 6 ≤ _ by have := hw.1; omega) (show _ < h.1 by have := hw.1; omega) hc (by decide)) (fun r h1 q => ?_)
  obtain ⟨rfl, e9⟩ := q; subst e9
  change mi_WX _ pP X kX9_seek 2 0 0 9 [(0, .ref M), (1, .int x)] [.int 1] (mi_set h M (.inr (9, [.int 1, .ref (M + 1), .ref (M + 2), .ref (M + 3), .ref (M + 4), .int 0, .int 0, .int 0, .int 4, .ref (M + 5), .int 0, .double 0, .int 0, .int 0, .int 0]))) _
  refine mi_if_eq okX9_seek rfl rfl (fun c_9 => absurd c_9 (by decide)) (fun c_9 => ?_)
  refine mi_blk okX9_seek 2 (pc' := 24) (lv' := [(0, .ref M), (1, .int x)]) (st' := [.double FP.dconst0]) rfl ?_
  exact mi_ret_d okX9_seek rfl rfl ⟨rfl, mp.set (0, 0, 0, 4, 0, 0, 0, 0, 0)⟩
set_option maxHeartbeats 4000000 in
set_option maxRecDepth 100000 in
theorem m_angle_s {X : mi_X} {h : mi_H} {M : Nat} (hw : mo_W M h) (hc : h.2 M = mo_c M 0 mo_0) {x : Int32} (hx : x < 0 ∨ nI 240 ≤ x) : mi_S pP X kX9_angle 2 [.ref M, .int x] h 0 0 (fun r h1 => r = some (.double FP.dconst0) ∧ mp M h 1 h1) := by
  refine enX9_angle (Nat.le_of_ble_eq_true rfl) ?_
  refine mi_blk okX9_angle 2 (pc' := 2) (lv' := [(0, .ref M), (1, .int x)]) (st' := [.int x, .ref M]) rfl ?_
  refine mi_callS okX9_angle (mc := 0) (ms := 0) (mc' := 0) (ms' := 0) (As := [.int x]) (st := [.ref M]) rfl cs_RX9_166 rfl (by decide) (Nat.le_of_ble_eq_true rfl) (m_isNoSector_1 hx) (fun r h1 q => ?_)
  obtain ⟨rfl, e9⟩ := q; have e9 := e9.symm; subst e9
  change mi_WX _ pP X kX9_angle 2 0 0 5 [(0, .ref M), (1, .int x)] [.int 1, .ref M] h _
  refine mi_blk okX9_angle 1 (pc' := 6) (lv' := [(0, .ref M), (1, .int x)]) (st' := [.int 1, .int 1, .ref M]) rfl ?_
  refine mi_callV okX9_angle (mc := 0) (ms := 0) (mc' := 0) (ms' := 0) (b := M) (As := [.int 1, .int 1]) (st := []) rfl cv_RX9_130 rfl (by decide) (show 6 ≤ _ by have := hw.1; omega) (show _ < h.1 by have := hw.1; omega) hc rfl (Nat.le_of_ble_eq_true rfl) (m_start_1 (h := h) (u := (0, 0, 0, 4, 0, 0, 0, 0, 0)) (show 6 ≤ _ by have := hw.1; omega) (show _ < h.1 by have := hw.1; omega) hc (by decide)) (fun r h1 q => ?_)
  obtain ⟨rfl, e9⟩ := q; subst e9
  change mi_WX _ pP X kX9_angle 2 0 0 9 [(0, .ref M), (1, .int x)] [.int 1] (mi_set h M (.inr (9, [.int 1, .ref (M + 1), .ref (M + 2), .ref (M + 3), .ref (M + 4), .int 0, .int 0, .int 0, .int 4, .ref (M + 5), .int 0, .double 0, .int 0, .int 0, .int 0]))) _
  refine mi_if_eq okX9_angle rfl rfl (fun c_9 => absurd c_9 (by decide)) (fun c_9 => ?_)
  refine mi_blk okX9_angle 2 (pc' := 20) (lv' := [(0, .ref M), (1, .int x)]) (st' := [.double FP.dconst0]) rfl ?_
  exact mi_ret_d okX9_angle rfl rfl ⟨rfl, mp.set (0, 0, 0, 4, 0, 0, 0, 0, 0)⟩
set_option maxHeartbeats 4000000 in
set_option maxRecDepth 100000 in
theorem m_ofSector_s {X : mi_X} {h : mi_H} {M : Nat} (hw : mo_W M h) (hc : h.2 M = mo_c M 0 mo_0) {x : Int32} (hx : x < 0 ∨ nI 240 ≤ x) {y : Int32} : mi_S pP X kX9_ofSector 2 [.ref M, .int x, .int y] h 0 0 (fun r h1 => r = some (.int 0) ∧ mp M h 1 h1) := by
  refine enX9_ofSector (Nat.le_of_ble_eq_true rfl) ?_
  refine mi_blk okX9_ofSector 2 (pc' := 2) (lv' := [(0, .ref M), (1, .int x), (2, .int y)]) (st' := [.int x, .ref M]) rfl ?_
  refine mi_callS okX9_ofSector (mc := 0) (ms := 0) (mc' := 0) (ms' := 0) (As := [.int x]) (st := [.ref M]) rfl cs_RX9_166 rfl (by decide) (Nat.le_of_ble_eq_true rfl) (m_isNoSector_1 hx) (fun r h1 q => ?_)
  obtain ⟨rfl, e9⟩ := q; have e9 := e9.symm; subst e9
  change mi_WX _ pP X kX9_ofSector 2 0 0 5 [(0, .ref M), (1, .int x), (2, .int y)] [.int 1, .ref M] h _
  refine mi_blk okX9_ofSector 1 (pc' := 6) (lv' := [(0, .ref M), (1, .int x), (2, .int y)]) (st' := [.int 1, .int 1, .ref M]) rfl ?_
  refine mi_callV okX9_ofSector (mc := 0) (ms := 0) (mc' := 0) (ms' := 0) (b := M) (As := [.int 1, .int 1]) (st := []) rfl cv_RX9_130 rfl (by decide) (show 6 ≤ _ by have := hw.1; omega) (show _ < h.1 by have := hw.1; omega) hc rfl (Nat.le_of_ble_eq_true rfl) (m_start_1 (h := h) (u := (0, 0, 0, 4, 0, 0, 0, 0, 0)) (show 6 ≤ _ by have := hw.1; omega) (show _ < h.1 by have := hw.1; omega) hc (by decide)) (fun r h1 q => ?_)
  obtain ⟨rfl, e9⟩ := q; subst e9
  change mi_WX _ pP X kX9_ofSector 2 0 0 9 [(0, .ref M), (1, .int x), (2, .int y)] [.int 1] (mi_set h M (.inr (9, [.int 1, .ref (M + 1), .ref (M + 2), .ref (M + 3), .ref (M + 4), .int 0, .int 0, .int 0, .int 4, .ref (M + 5), .int 0, .double 0, .int 0, .int 0, .int 0]))) _
  refine mi_if_ne okX9_ofSector rfl rfl (fun c_9 => ?_) (fun c_9 => absurd c_9 (by decide))
  refine mi_blk okX9_ofSector 2 (pc' := 45) (lv' := [(0, .ref M), (1, .int x), (2, .int y)]) (st' := [.int 0]) rfl ?_
  exact mi_ret_i okX9_ofSector rfl rfl rfl ⟨rfl, mp.set (0, 0, 0, 4, 0, 0, 0, 0, 0)⟩
set_option maxHeartbeats 4000000 in
set_option maxRecDepth 100000 in
theorem m_nibbles_s {X : mi_X} {h : mi_H} {M : Nat} (hw : mo_W M h) (hc : h.2 M = mo_c M 0 mo_0) {x : Int32} (hx : x < 0 ∨ nI 240 ≤ x) {y : Int32} : mi_S pP X kX9_nibbles 2 [.ref M, .int x, .int y] h 0 0 (fun r h1 => r = some (.long 0) ∧ mp M h 1 h1) := by
  refine enX9_nibbles (Nat.le_of_ble_eq_true rfl) ?_
  refine mi_blk okX9_nibbles 2 (pc' := 2) (lv' := [(0, .ref M), (1, .int x), (2, .int y)]) (st' := [.int x, .ref M]) rfl ?_
  refine mi_callS okX9_nibbles (mc := 0) (ms := 0) (mc' := 0) (ms' := 0) (As := [.int x]) (st := [.ref M]) rfl cs_RX9_166 rfl (by decide) (Nat.le_of_ble_eq_true rfl) (m_isNoSector_1 hx) (fun r h1 q => ?_)
  obtain ⟨rfl, e9⟩ := q; have e9 := e9.symm; subst e9
  change mi_WX _ pP X kX9_nibbles 2 0 0 5 [(0, .ref M), (1, .int x), (2, .int y)] [.int 1, .ref M] h _
  refine mi_blk okX9_nibbles 1 (pc' := 6) (lv' := [(0, .ref M), (1, .int x), (2, .int y)]) (st' := [.int 1, .int 1, .ref M]) rfl ?_
  refine mi_callV okX9_nibbles (mc := 0) (ms := 0) (mc' := 0) (ms' := 0) (b := M) (As := [.int 1, .int 1]) (st := []) rfl cv_RX9_130 rfl (by decide) (show 6 ≤ _ by have := hw.1; omega) (show _ < h.1 by have := hw.1; omega) hc rfl (Nat.le_of_ble_eq_true rfl) (m_start_1 (h := h) (u := (0, 0, 0, 4, 0, 0, 0, 0, 0)) (show 6 ≤ _ by have := hw.1; omega) (show _ < h.1 by have := hw.1; omega) hc (by decide)) (fun r h1 q => ?_)
  obtain ⟨rfl, e9⟩ := q; subst e9
  change mi_WX _ pP X kX9_nibbles 2 0 0 9 [(0, .ref M), (1, .int x), (2, .int y)] [.int 1] (mi_set h M (.inr (9, [.int 1, .ref (M + 1), .ref (M + 2), .ref (M + 3), .ref (M + 4), .int 0, .int 0, .int 0, .int 4, .ref (M + 5), .int 0, .double 0, .int 0, .int 0, .int 0]))) _
  refine mi_if_eq okX9_nibbles rfl rfl (fun c_9 => absurd c_9 (by decide)) (fun c_9 => ?_)
  refine mi_blk okX9_nibbles 2 (pc' := 22) (lv' := [(0, .ref M), (1, .int x), (2, .int y)]) (st' := [.long 0]) rfl ?_
  exact mi_ret_l okX9_nibbles rfl rfl ⟨rfl, mp.set (0, 0, 0, 4, 0, 0, 0, 0, 0)⟩
set_option maxHeartbeats 4000000 in
set_option maxRecDepth 100000 in
theorem m_place_s {X : mi_X} {h : mi_H} {M : Nat} (hw : mo_W M h) (hc : h.2 M = mo_c M 0 mo_0) {x : Int32} (hx : x < 0 ∨ nI 240 ≤ x) {y : Int32} : mi_S pP X kX9_place 2 [.ref M, .int x, .int y] h 0 0 (fun r h1 => r = some (.int 0) ∧ mp M h 1 h1) := by
  refine enX9_place (Nat.le_of_ble_eq_true rfl) ?_
  refine mi_blk okX9_place 2 (pc' := 2) (lv' := [(0, .ref M), (1, .int x), (2, .int y)]) (st' := [.int x, .ref M]) rfl ?_
  refine mi_callS okX9_place (mc := 0) (ms := 0) (mc' := 0) (ms' := 0) (As := [.int x]) (st := [.ref M]) rfl cs_RX9_166 rfl (by decide) (Nat.le_of_ble_eq_true rfl) (m_isNoSector_1 hx) (fun r h1 q => ?_)
  obtain ⟨rfl, e9⟩ := q; have e9 := e9.symm; subst e9
  change mi_WX _ pP X kX9_place 2 0 0 5 [(0, .ref M), (1, .int x), (2, .int y)] [.int 1, .ref M] h _
  refine mi_if_ne okX9_place rfl rfl (fun c_5 => ?_) (fun c_5 => absurd c_5 (by decide))
  refine mi_blk okX9_place 3 (pc' := 24) (lv' := [(0, .ref M), (1, .int x), (2, .int y)]) (st' := [.int 1, .int 1, .ref M]) rfl ?_
  refine mi_callV okX9_place (mc := 0) (ms := 0) (mc' := 0) (ms' := 0) (b := M) (As := [.int 1, .int 1]) (st := []) rfl cv_RX9_130 rfl (by decide) (show 6 ≤ _ by have := hw.1; omega) (show _ < h.1 by have := hw.1; omega) hc rfl (Nat.le_of_ble_eq_true rfl) (m_start_1 (h := h) (u := (0, 0, 0, 4, 0, 0, 0, 0, 0)) (show 6 ≤ _ by have := hw.1; omega) (show _ < h.1 by have := hw.1; omega) hc (by decide)) (fun r h1 q => ?_)
  obtain ⟨rfl, e9⟩ := q; subst e9
  change mi_WX _ pP X kX9_place 2 0 0 27 [(0, .ref M), (1, .int x), (2, .int y)] [.int 1] (mi_set h M (.inr (9, [.int 1, .ref (M + 1), .ref (M + 2), .ref (M + 3), .ref (M + 4), .int 0, .int 0, .int 0, .int 4, .ref (M + 5), .int 0, .double 0, .int 0, .int 0, .int 0]))) _
  refine mi_if_eq okX9_place rfl rfl (fun c_27 => absurd c_27 (by decide)) (fun c_27 => ?_)
  refine mi_blk okX9_place 1 (pc' := 31) (lv' := [(0, .ref M), (1, .int x), (2, .int y)]) (st' := [.int 0]) rfl ?_
  exact mi_ret_i okX9_place rfl rfl rfl ⟨rfl, mp.set (0, 0, 0, 4, 0, 0, 0, 0, 0)⟩
set_option maxHeartbeats 4000000 in
set_option maxRecDepth 100000 in
theorem m_play_s {X : mi_X} {h : mi_H} {M : Nat} (hw : mo_W M h) (hc : h.2 M = mo_c M 0 mo_0) {x : Int32} (hx : x < 0 ∨ nI 240 ≤ x) : mi_S pP X kX9_play 2 [.ref M, .int x] h 0 0 (fun r h1 => r = some (.double FP.dconst0) ∧ mp M h 1 h1) := by
  refine enX9_play (Nat.le_of_ble_eq_true rfl) ?_
  refine mi_blk okX9_play 2 (pc' := 2) (lv' := [(0, .ref M), (1, .int x)]) (st' := [.int x, .ref M]) rfl ?_
  refine mi_callS okX9_play (mc := 0) (ms := 0) (mc' := 0) (ms' := 0) (As := [.int x]) (st := [.ref M]) rfl cs_RX9_166 rfl (by decide) (Nat.le_of_ble_eq_true rfl) (m_isNoSector_1 hx) (fun r h1 q => ?_)
  obtain ⟨rfl, e9⟩ := q; have e9 := e9.symm; subst e9
  change mi_WX _ pP X kX9_play 2 0 0 5 [(0, .ref M), (1, .int x)] [.int 1, .ref M] h _
  refine mi_blk okX9_play 1 (pc' := 6) (lv' := [(0, .ref M), (1, .int x)]) (st' := [.int 1, .int 1, .ref M]) rfl ?_
  refine mi_callV okX9_play (mc := 0) (ms := 0) (mc' := 0) (ms' := 0) (b := M) (As := [.int 1, .int 1]) (st := []) rfl cv_RX9_130 rfl (by decide) (show 6 ≤ _ by have := hw.1; omega) (show _ < h.1 by have := hw.1; omega) hc rfl (Nat.le_of_ble_eq_true rfl) (m_start_1 (h := h) (u := (0, 0, 0, 4, 0, 0, 0, 0, 0)) (show 6 ≤ _ by have := hw.1; omega) (show _ < h.1 by have := hw.1; omega) hc (by decide)) (fun r h1 q => ?_)
  obtain ⟨rfl, e9⟩ := q; subst e9
  change mi_WX _ pP X kX9_play 2 0 0 9 [(0, .ref M), (1, .int x)] [.int 1] (mi_set h M (.inr (9, [.int 1, .ref (M + 1), .ref (M + 2), .ref (M + 3), .ref (M + 4), .int 0, .int 0, .int 0, .int 4, .ref (M + 5), .int 0, .double 0, .int 0, .int 0, .int 0]))) _
  refine mi_if_ne okX9_play rfl rfl (fun c_9 => ?_) (fun c_9 => absurd c_9 (by decide))
  refine mi_blk okX9_play 1 (pc' := 58) (lv' := [(0, .ref M), (1, .int x)]) (st' := [.double FP.dconst0]) rfl ?_
  exact mi_ret_d okX9_play rfl rfl ⟨rfl, mp.set (0, 0, 0, 4, 0, 0, 0, 0, 0)⟩
set_option maxHeartbeats 4000000 in
set_option maxRecDepth 100000 in
theorem m_wouldTake_s {X : mi_X} {h : mi_H} {M : Nat} (hw : mo_W M h) (hc : h.2 M = mo_c M 0 mo_0) {x : Int32} (hx : x < 0 ∨ nI 240 ≤ x) {y : Int32} : mi_S pP X kX9_wouldTake 2 [.ref M, .int x, .int y] h 0 0 (fun r h1 => r = some (.double FP.dconst0) ∧ mp M h 1 h1) := by
  refine enX9_wouldTake (Nat.le_of_ble_eq_true rfl) ?_
  refine mi_blk okX9_wouldTake 2 (pc' := 2) (lv' := [(0, .ref M), (1, .int x), (2, .int y)]) (st' := [.int x, .ref M]) rfl ?_
  refine mi_callS okX9_wouldTake (mc := 0) (ms := 0) (mc' := 0) (ms' := 0) (As := [.int x]) (st := [.ref M]) rfl cs_RX9_166 rfl (by decide) (Nat.le_of_ble_eq_true rfl) (m_isNoSector_1 hx) (fun r h1 q => ?_)
  obtain ⟨rfl, e9⟩ := q; have e9 := e9.symm; subst e9
  change mi_WX _ pP X kX9_wouldTake 2 0 0 5 [(0, .ref M), (1, .int x), (2, .int y)] [.int 1, .ref M] h _
  refine mi_blk okX9_wouldTake 1 (pc' := 6) (lv' := [(0, .ref M), (1, .int x), (2, .int y)]) (st' := [.int 1, .int 1, .ref M]) rfl ?_
  refine mi_callV okX9_wouldTake (mc := 0) (ms := 0) (mc' := 0) (ms' := 0) (b := M) (As := [.int 1, .int 1]) (st := []) rfl cv_RX9_130 rfl (by decide) (show 6 ≤ _ by have := hw.1; omega) (show _ < h.1 by have := hw.1; omega) hc rfl (Nat.le_of_ble_eq_true rfl) (m_start_1 (h := h) (u := (0, 0, 0, 4, 0, 0, 0, 0, 0)) (show 6 ≤ _ by have := hw.1; omega) (show _ < h.1 by have := hw.1; omega) hc (by decide)) (fun r h1 q => ?_)
  obtain ⟨rfl, e9⟩ := q; subst e9
  change mi_WX _ pP X kX9_wouldTake 2 0 0 9 [(0, .ref M), (1, .int x), (2, .int y)] [.int 1] (mi_set h M (.inr (9, [.int 1, .ref (M + 1), .ref (M + 2), .ref (M + 3), .ref (M + 4), .int 0, .int 0, .int 0, .int 4, .ref (M + 5), .int 0, .double 0, .int 0, .int 0, .int 0]))) _
  refine mi_if_ne okX9_wouldTake rfl rfl (fun c_9 => ?_) (fun c_9 => absurd c_9 (by decide))
  refine mi_blk okX9_wouldTake 1 (pc' := 36) (lv' := [(0, .ref M), (1, .int x), (2, .int y)]) (st' := [.double FP.dconst0]) rfl ?_
  exact mi_ret_d okX9_wouldTake rfl rfl ⟨rfl, mp.set (0, 0, 0, 4, 0, 0, 0, 0, 0)⟩
set_option maxHeartbeats 4000000 in
set_option maxRecDepth 100000 in
theorem m_wouldMend_s {X : mi_X} {h : mi_H} {M : Nat} (hw : mo_W M h) (hc : h.2 M = mo_c M 0 mo_0) {x : Int32} (hx : x < 0 ∨ nI 240 ≤ x) {y : Int32} : mi_S pP X kX9_wouldMend 2 [.ref M, .int x, .int y] h 0 0 (fun r h1 => r = some (.int 0) ∧ mp M h 1 h1) := by
  refine enX9_wouldMend (Nat.le_of_ble_eq_true rfl) ?_
  refine mi_blk okX9_wouldMend 2 (pc' := 2) (lv' := [(0, .ref M), (1, .int x), (2, .int y)]) (st' := [.int x, .ref M]) rfl ?_
  refine mi_callS okX9_wouldMend (mc := 0) (ms := 0) (mc' := 0) (ms' := 0) (As := [.int x]) (st := [.ref M]) rfl cs_RX9_166 rfl (by decide) (Nat.le_of_ble_eq_true rfl) (m_isNoSector_1 hx) (fun r h1 q => ?_)
  obtain ⟨rfl, e9⟩ := q; have e9 := e9.symm; subst e9
  change mi_WX _ pP X kX9_wouldMend 2 0 0 5 [(0, .ref M), (1, .int x), (2, .int y)] [.int 1, .ref M] h _
  refine mi_blk okX9_wouldMend 1 (pc' := 6) (lv' := [(0, .ref M), (1, .int x), (2, .int y)]) (st' := [.int 1, .int 1, .ref M]) rfl ?_
  refine mi_callV okX9_wouldMend (mc := 0) (ms := 0) (mc' := 0) (ms' := 0) (b := M) (As := [.int 1, .int 1]) (st := []) rfl cv_RX9_130 rfl (by decide) (show 6 ≤ _ by have := hw.1; omega) (show _ < h.1 by have := hw.1; omega) hc rfl (Nat.le_of_ble_eq_true rfl) (m_start_1 (h := h) (u := (0, 0, 0, 4, 0, 0, 0, 0, 0)) (show 6 ≤ _ by have := hw.1; omega) (show _ < h.1 by have := hw.1; omega) hc (by decide)) (fun r h1 q => ?_)
  obtain ⟨rfl, e9⟩ := q; subst e9
  change mi_WX _ pP X kX9_wouldMend 2 0 0 9 [(0, .ref M), (1, .int x), (2, .int y)] [.int 1] (mi_set h M (.inr (9, [.int 1, .ref (M + 1), .ref (M + 2), .ref (M + 3), .ref (M + 4), .int 0, .int 0, .int 0, .int 4, .ref (M + 5), .int 0, .double 0, .int 0, .int 0, .int 0]))) _
  refine mi_if_ne okX9_wouldMend rfl rfl (fun c_9 => ?_) (fun c_9 => absurd c_9 (by decide))
  refine mi_blk okX9_wouldMend 1 (pc' := 37) (lv' := [(0, .ref M), (1, .int x), (2, .int y)]) (st' := [.int 0]) rfl ?_
  exact mi_ret_i okX9_wouldMend rfl rfl rfl ⟨rfl, mp.set (0, 0, 0, 4, 0, 0, 0, 0, 0)⟩
set_option maxHeartbeats 4000000 in
set_option maxRecDepth 100000 in
theorem m_place_p {X : mi_X} {h : mi_H} {M : Nat} (hw : mo_W M h) (hc : h.2 M = mo_c M 0 mo_0) {k : Nat} (hk : k < 240) {y : Int32} (hy : y < 0 ∨ 15 < y) : mi_S pP X kX9_place 2 [.ref M, .int (nI k), .int y] h 0 0 (fun r h1 => r = some (.int 0) ∧ mp M h 1 h1) := by
  refine enX9_place (Nat.le_of_ble_eq_true rfl) ?_
  refine mi_blk okX9_place 2 (pc' := 2) (lv' := [(0, .ref M), (1, .int (nI k)), (2, .int y)]) (st' := [.int (nI k), .ref M]) rfl ?_
  refine mi_callS okX9_place (mc := 0) (ms := 0) (mc' := 0) (ms' := 0) (As := [.int (nI k)]) (st := [.ref M]) rfl cs_RX9_166 rfl (by decide) (Nat.le_of_ble_eq_true rfl) (m_isNoSector_0 hk) (fun r h1 q => ?_)
  obtain ⟨rfl, e9⟩ := q; have e9 := e9.symm; subst e9
  change mi_WX _ pP X kX9_place 2 0 0 5 [(0, .ref M), (1, .int (nI k)), (2, .int y)] [.int 0, .ref M] h _
  refine mi_if_ne okX9_place rfl rfl (fun c_5 => absurd (by decide) c_5) (fun c_5 => ?_)
  refine mi_blk okX9_place 3 (pc' := 12) (lv' := [(0, .ref M), (1, .int (nI k)), (2, .int y)]) (st' := [.int 15, .int 0, .int y, .ref M]) rfl ?_
  refine mi_callS okX9_place (mc := 0) (ms := 0) (mc' := 0) (ms' := 0) (As := [.int y, .int 0, .int 15]) (st := [.ref M]) rfl cs_RX9_46 rfl (by decide) (Nat.le_of_ble_eq_true rfl) (m_isIn_0 hy) (fun r h1 q => ?_)
  obtain ⟨rfl, e9⟩ := q; have e9 := e9.symm; subst e9
  change mi_WX _ pP X kX9_place 2 0 0 15 [(0, .ref M), (1, .int (nI k)), (2, .int y)] [.int 0, .ref M] h _
  refine mi_if_ne okX9_place rfl rfl (fun c_15 => absurd (by decide) c_15) (fun c_15 => ?_)
  refine mi_blk okX9_place 3 (pc' := 24) (lv' := [(0, .ref M), (1, .int (nI k)), (2, .int y)]) (st' := [.int 1, .int 1, .ref M]) rfl ?_
  refine mi_callV okX9_place (mc := 0) (ms := 0) (mc' := 0) (ms' := 0) (b := M) (As := [.int 1, .int 1]) (st := []) rfl cv_RX9_130 rfl (by decide) (show 6 ≤ _ by have := hw.1; omega) (show _ < h.1 by have := hw.1; omega) hc rfl (Nat.le_of_ble_eq_true rfl) (m_start_1 (h := h) (u := (0, 0, 0, 4, 0, 0, 0, 0, 0)) (show 6 ≤ _ by have := hw.1; omega) (show _ < h.1 by have := hw.1; omega) hc (by decide)) (fun r h1 q => ?_)
  obtain ⟨rfl, e9⟩ := q; subst e9
  change mi_WX _ pP X kX9_place 2 0 0 27 [(0, .ref M), (1, .int (nI k)), (2, .int y)] [.int 1] (mi_set h M (.inr (9, [.int 1, .ref (M + 1), .ref (M + 2), .ref (M + 3), .ref (M + 4), .int 0, .int 0, .int 0, .int 4, .ref (M + 5), .int 0, .double 0, .int 0, .int 0, .int 0]))) _
  refine mi_if_eq okX9_place rfl rfl (fun c_27 => absurd c_27 (by decide)) (fun c_27 => ?_)
  refine mi_blk okX9_place 1 (pc' := 31) (lv' := [(0, .ref M), (1, .int (nI k)), (2, .int y)]) (st' := [.int 0]) rfl ?_
  exact mi_ret_i okX9_place rfl rfl rfl ⟨rfl, mp.set (0, 0, 0, 4, 0, 0, 0, 0, 0)⟩
set_option maxHeartbeats 4000000 in
set_option maxRecDepth 100000 in
theorem m_place {X : mi_X} {h : mi_H} {M : Nat} (hw : mo_W M h) (hc : h.2 M = mo_c M 0 mo_0) {k : Nat} (hk : k < 240) {y : Int32} (h1 : ¬ y < 0) (h2 : ¬ 15 < y) : mi_S pP X kX9_place 2 [.ref M, .int (nI k), .int y] h 0 0 (fun r h1 => r = some (.int (-1)) ∧ mp M h 0 h1) := by
  refine enX9_place (Nat.le_of_ble_eq_true rfl) ?_
  refine mi_blk okX9_place 2 (pc' := 2) (lv' := [(0, .ref M), (1, .int (nI k)), (2, .int y)]) (st' := [.int (nI k), .ref M]) rfl ?_
  refine mi_callS okX9_place (mc := 0) (ms := 0) (mc' := 0) (ms' := 0) (As := [.int (nI k)]) (st := [.ref M]) rfl cs_RX9_166 rfl (by decide) (Nat.le_of_ble_eq_true rfl) (m_isNoSector_0 hk) (fun r h1 q => ?_)
  obtain ⟨rfl, e9⟩ := q; have e9 := e9.symm; subst e9
  change mi_WX _ pP X kX9_place 2 0 0 5 [(0, .ref M), (1, .int (nI k)), (2, .int y)] [.int 0, .ref M] h _
  refine mi_if_ne okX9_place rfl rfl (fun c_5 => absurd (by decide) c_5) (fun c_5 => ?_)
  refine mi_blk okX9_place 3 (pc' := 12) (lv' := [(0, .ref M), (1, .int (nI k)), (2, .int y)]) (st' := [.int 15, .int 0, .int y, .ref M]) rfl ?_
  refine mi_callS okX9_place (mc := 0) (ms := 0) (mc' := 0) (ms' := 0) (As := [.int y, .int 0, .int 15]) (st := [.ref M]) rfl cs_RX9_46 rfl (by decide) (Nat.le_of_ble_eq_true rfl) (m_isIn_1 h1 h2) (fun r h1 q => ?_)
  obtain ⟨rfl, e9⟩ := q; have e9 := e9.symm; subst e9
  change mi_WX _ pP X kX9_place 2 0 0 15 [(0, .ref M), (1, .int (nI k)), (2, .int y)] [.int 1, .ref M] h _
  refine mi_if_ne okX9_place rfl rfl (fun c_15 => ?_) (fun c_15 => absurd c_15 (by decide))
  refine mi_blk okX9_place 2 (pc' := 24) (lv' := [(0, .ref M), (1, .int (nI k)), (2, .int y)]) (st' := [.int 1, .int 0, .ref M]) rfl ?_
  refine mi_callV okX9_place (mc := 0) (ms := 0) (mc' := 0) (ms' := 0) (b := M) (As := [.int 0, .int 1]) (st := []) rfl cv_RX9_130 rfl (by decide) (show 6 ≤ _ by have := hw.1; omega) (show _ < h.1 by have := hw.1; omega) hc rfl (Nat.le_of_ble_eq_true rfl) (m_start_0 (h := h) (u := (0, 0, 0, 4, 0, 0, 0, 0, 0)) (show 6 ≤ _ by have := hw.1; omega) (show _ < h.1 by have := hw.1; omega) hc) (fun r h1 q => ?_)
  obtain ⟨rfl, e9⟩ := q; subst e9
  change mi_WX _ pP X kX9_place 2 0 0 27 [(0, .ref M), (1, .int (nI k)), (2, .int y)] [.int 0] (mi_set h M (.inr (9, [.int 0, .ref (M + 1), .ref (M + 2), .ref (M + 3), .ref (M + 4), .int 0, .int 0, .int 0, .int 4, .ref (M + 5), .int 0, .double 0, .int 0, .int 0, .int 0]))) _
  refine mi_if_eq okX9_place rfl rfl (fun c_27 => ?_) (fun c_27 => absurd (by decide) c_27)
  refine mi_blk okX9_place 1 (pc' := 33) (lv' := [(0, .ref M), (1, .int (nI k)), (2, .int y)]) (st' := [.ref M]) rfl ?_
  refine mi_getf okX9_place rfl fg_RX9_11 (show 6 ≤ _ by have := hw.1; omega) (show _ < h.1 by have := hw.1; omega) mi_set_self (v := .ref (M + 1)) rfl ?_
  refine mi_blk okX9_place 1 (pc' := 37) (lv' := [(0, .ref M), (1, .int (nI k)), (2, .int y)]) (st' := [.int (nI k), .ref (M + 1)]) rfl ?_
  refine mo_aab okX9_place (k := k) rfl (hw.set _) hk ?_
  refine mi_ifnonnull_n okX9_place rfl ?_
  refine mi_blk okX9_place 2 (pc' := 53) (lv' := [(0, .ref M), (1, .int (nI k)), (2, .int y)]) (st' := [.int (-1)]) rfl ?_
  exact mi_ret_i okX9_place rfl rfl rfl ⟨rfl, mp.set (0, 0, 0, 4, 0, 0, 0, 0, 0)⟩
set_option maxHeartbeats 4000000 in
set_option maxRecDepth 100000 in
theorem m_play_n {X : mi_X} {h : mi_H} {M : Nat} (hw : mo_W M h) (hc : h.2 M = mo_c M 0 mo_0) {k : Nat} (hk : k < 240) : mi_S pP X kX9_play 2 [.ref M, .int (nI k)] h 0 0 (fun r h1 => r = some (.double FP.dconst0) ∧ mp M h 2 h1) := by
  refine enX9_play (Nat.le_of_ble_eq_true rfl) ?_
  refine mi_blk okX9_play 2 (pc' := 2) (lv' := [(0, .ref M), (1, .int (nI k))]) (st' := [.int (nI k), .ref M]) rfl ?_
  refine mi_callS okX9_play (mc := 0) (ms := 0) (mc' := 0) (ms' := 0) (As := [.int (nI k)]) (st := [.ref M]) rfl cs_RX9_166 rfl (by decide) (Nat.le_of_ble_eq_true rfl) (m_isNoSector_0 hk) (fun r h1 q => ?_)
  obtain ⟨rfl, e9⟩ := q; have e9 := e9.symm; subst e9
  change mi_WX _ pP X kX9_play 2 0 0 5 [(0, .ref M), (1, .int (nI k))] [.int 0, .ref M] h _
  refine mi_blk okX9_play 1 (pc' := 6) (lv' := [(0, .ref M), (1, .int (nI k))]) (st' := [.int 1, .int 0, .ref M]) rfl ?_
  refine mi_callV okX9_play (mc := 0) (ms := 0) (mc' := 0) (ms' := 0) (b := M) (As := [.int 0, .int 1]) (st := []) rfl cv_RX9_130 rfl (by decide) (show 6 ≤ _ by have := hw.1; omega) (show _ < h.1 by have := hw.1; omega) hc rfl (Nat.le_of_ble_eq_true rfl) (m_start_0 (h := h) (u := (0, 0, 0, 4, 0, 0, 0, 0, 0)) (show 6 ≤ _ by have := hw.1; omega) (show _ < h.1 by have := hw.1; omega) hc) (fun r h1 q => ?_)
  obtain ⟨rfl, e9⟩ := q; subst e9
  change mi_WX _ pP X kX9_play 2 0 0 9 [(0, .ref M), (1, .int (nI k))] [.int 0] (mi_set h M (.inr (9, [.int 0, .ref (M + 1), .ref (M + 2), .ref (M + 3), .ref (M + 4), .int 0, .int 0, .int 0, .int 4, .ref (M + 5), .int 0, .double 0, .int 0, .int 0, .int 0]))) _
  refine mi_if_ne okX9_play rfl rfl (fun c_9 => absurd (by decide) c_9) (fun c_9 => ?_)
  refine mi_blk okX9_play 2 (pc' := 14) (lv' := [(0, .ref M), (1, .int (nI k))]) (st' := [.ref M, .ref M]) rfl ?_
  refine mi_getf okX9_play rfl fg_RX9_25 (show 6 ≤ _ by have := hw.1; omega) (show _ < h.1 by have := hw.1; omega) mi_set_self (v := .ref (M + 4)) rfl ?_
  refine mi_blk okX9_play 1 (pc' := 18) (lv' := [(0, .ref M), (1, .int (nI k))]) (st' := [.int (nI k), .ref (M + 4), .ref M]) rfl ?_
  refine mo_iao okX9_play (k := k) rfl (hw.set _) hk ?_
  refine mi_blk okX9_play 1 (pc' := 20) (lv' := [(0, .ref M), (1, .int (nI k))]) (st' := [.int (-1), .int (-1), .ref M]) rfl ?_
  refine mi_ic_eq okX9_play rfl rfl (fun c_20 => ?_) (fun c_20 => absurd (by decide) c_20)
  refine mi_blk okX9_play 3 (pc' := 51) (lv' := [(0, .ref M), (1, .int (nI k))]) (st' := [.int 2, .int 1, .ref M]) rfl ?_
  refine mi_callV okX9_play (mc := 0) (ms := 0) (mc' := 0) (ms' := 0) (b := M) (As := [.int 1, .int 2]) (st := []) rfl cv_RX9_38 rfl (by decide) (show 6 ≤ _ by have := hw.1; omega) (show _ < h.1 by have := hw.1; omega) mi_set_self rfl (Nat.le_of_ble_eq_true rfl) (m_refuse_1 (h := (mi_set h M (.inr (9, [.int 0, .ref (M + 1), .ref (M + 2), .ref (M + 3), .ref (M + 4), .int 0, .int 0, .int 0, .int 4, .ref (M + 5), .int 0, .double 0, .int 0, .int 0, .int 0])))) (u := (0, 0, 0, 4, 0, 0, 0, 0, 0)) (show 6 ≤ _ by have := hw.1; omega) (show _ < h.1 by have := hw.1; omega) mi_set_self (by decide)) (fun r h1 q => ?_)
  obtain ⟨rfl, e9⟩ := q; rw [mi_set_set] at e9; subst e9
  change mi_WX _ pP X kX9_play 2 0 0 54 [(0, .ref M), (1, .int (nI k))] [.int 1] (mi_set h M (.inr (9, [.int 2, .ref (M + 1), .ref (M + 2), .ref (M + 3), .ref (M + 4), .int 0, .int 0, .int 0, .int 4, .ref (M + 5), .int 0, .double 0, .int 0, .int 0, .int 0]))) _
  refine mi_if_eq okX9_play rfl rfl (fun c_54 => absurd c_54 (by decide)) (fun c_54 => ?_)
  refine mi_blk okX9_play 1 (pc' := 58) (lv' := [(0, .ref M), (1, .int (nI k))]) (st' := [.double FP.dconst0]) rfl ?_
  exact mi_ret_d okX9_play rfl rfl ⟨rfl, mp.set (0, 0, 0, 4, 0, 0, 0, 0, 0)⟩
set_option maxHeartbeats 4000000 in
set_option maxRecDepth 100000 in
theorem m_wouldMend_t {X : mi_X} {h : mi_H} {M : Nat} (hw : mo_W M h) (hc : h.2 M = mo_c M 0 mo_0) {k : Nat} (hk : k < 240) {y : Int32} (hy : y < 0 ∨ (65535 : Int32) < y) : mi_S pP X kX9_wouldMend 2 [.ref M, .int (nI k), .int y] h 0 0 (fun r h1 => r = some (.int 0) ∧ mp M h 2 h1) := by
  refine enX9_wouldMend (Nat.le_of_ble_eq_true rfl) ?_
  refine mi_blk okX9_wouldMend 2 (pc' := 2) (lv' := [(0, .ref M), (1, .int (nI k)), (2, .int y)]) (st' := [.int (nI k), .ref M]) rfl ?_
  refine mi_callS okX9_wouldMend (mc := 0) (ms := 0) (mc' := 0) (ms' := 0) (As := [.int (nI k)]) (st := [.ref M]) rfl cs_RX9_166 rfl (by decide) (Nat.le_of_ble_eq_true rfl) (m_isNoSector_0 hk) (fun r h1 q => ?_)
  obtain ⟨rfl, e9⟩ := q; have e9 := e9.symm; subst e9
  change mi_WX _ pP X kX9_wouldMend 2 0 0 5 [(0, .ref M), (1, .int (nI k)), (2, .int y)] [.int 0, .ref M] h _
  refine mi_blk okX9_wouldMend 1 (pc' := 6) (lv' := [(0, .ref M), (1, .int (nI k)), (2, .int y)]) (st' := [.int 1, .int 0, .ref M]) rfl ?_
  refine mi_callV okX9_wouldMend (mc := 0) (ms := 0) (mc' := 0) (ms' := 0) (b := M) (As := [.int 0, .int 1]) (st := []) rfl cv_RX9_130 rfl (by decide) (show 6 ≤ _ by have := hw.1; omega) (show _ < h.1 by have := hw.1; omega) hc rfl (Nat.le_of_ble_eq_true rfl) (m_start_0 (h := h) (u := (0, 0, 0, 4, 0, 0, 0, 0, 0)) (show 6 ≤ _ by have := hw.1; omega) (show _ < h.1 by have := hw.1; omega) hc) (fun r h1 q => ?_)
  obtain ⟨rfl, e9⟩ := q; subst e9
  change mi_WX _ pP X kX9_wouldMend 2 0 0 9 [(0, .ref M), (1, .int (nI k)), (2, .int y)] [.int 0] (mi_set h M (.inr (9, [.int 0, .ref (M + 1), .ref (M + 2), .ref (M + 3), .ref (M + 4), .int 0, .int 0, .int 0, .int 4, .ref (M + 5), .int 0, .double 0, .int 0, .int 0, .int 0]))) _
  refine mi_if_ne okX9_wouldMend rfl rfl (fun c_9 => absurd (by decide) c_9) (fun c_9 => ?_)
  refine mi_blk okX9_wouldMend 3 (pc' := 15) (lv' := [(0, .ref M), (1, .int (nI k)), (2, .int y)]) (st' := [.int 0, .int y, .ref M]) rfl ?_
  refine mi_ldcw okX9_wouldMend (v := (65535 : Int32)) rfl kc_RX9_256 ?_
  refine mi_callS okX9_wouldMend (mc := 0) (ms := 0) (mc' := 0) (ms' := 0) (As := [.int y, .int 0, .int (65535 : Int32)]) (st := [.ref M]) rfl cs_RX9_46 rfl (by decide) (Nat.le_of_ble_eq_true rfl) (m_isIn_0 hy) (fun r h1 q => ?_)
  obtain ⟨rfl, e9⟩ := q; have e9 := e9.symm; subst e9
  change mi_WX _ pP X kX9_wouldMend 2 0 0 21 [(0, .ref M), (1, .int (nI k)), (2, .int y)] [.int 0, .ref M] (mi_set h M (.inr (9, [.int 0, .ref (M + 1), .ref (M + 2), .ref (M + 3), .ref (M + 4), .int 0, .int 0, .int 0, .int 4, .ref (M + 5), .int 0, .double 0, .int 0, .int 0, .int 0]))) _
  refine mi_if_ne okX9_wouldMend rfl rfl (fun c_21 => absurd (by decide) c_21) (fun c_21 => ?_)
  refine mi_blk okX9_wouldMend 3 (pc' := 30) (lv' := [(0, .ref M), (1, .int (nI k)), (2, .int y)]) (st' := [.int 2, .int 1, .ref M]) rfl ?_
  refine mi_callV okX9_wouldMend (mc := 0) (ms := 0) (mc' := 0) (ms' := 0) (b := M) (As := [.int 1, .int 2]) (st := []) rfl cv_RX9_38 rfl (by decide) (show 6 ≤ _ by have := hw.1; omega) (show _ < h.1 by have := hw.1; omega) mi_set_self rfl (Nat.le_of_ble_eq_true rfl) (m_refuse_1 (h := (mi_set h M (.inr (9, [.int 0, .ref (M + 1), .ref (M + 2), .ref (M + 3), .ref (M + 4), .int 0, .int 0, .int 0, .int 4, .ref (M + 5), .int 0, .double 0, .int 0, .int 0, .int 0])))) (u := (0, 0, 0, 4, 0, 0, 0, 0, 0)) (show 6 ≤ _ by have := hw.1; omega) (show _ < h.1 by have := hw.1; omega) mi_set_self (by decide)) (fun r h1 q => ?_)
  obtain ⟨rfl, e9⟩ := q; rw [mi_set_set] at e9; subst e9
  change mi_WX _ pP X kX9_wouldMend 2 0 0 33 [(0, .ref M), (1, .int (nI k)), (2, .int y)] [.int 1] (mi_set h M (.inr (9, [.int 2, .ref (M + 1), .ref (M + 2), .ref (M + 3), .ref (M + 4), .int 0, .int 0, .int 0, .int 4, .ref (M + 5), .int 0, .double 0, .int 0, .int 0, .int 0]))) _
  refine mi_if_eq okX9_wouldMend rfl rfl (fun c_33 => absurd c_33 (by decide)) (fun c_33 => ?_)
  refine mi_blk okX9_wouldMend 1 (pc' := 37) (lv' := [(0, .ref M), (1, .int (nI k)), (2, .int y)]) (st' := [.int 0]) rfl ?_
  exact mi_ret_i okX9_wouldMend rfl rfl rfl ⟨rfl, mp.set (0, 0, 0, 4, 0, 0, 0, 0, 0)⟩
set_option maxHeartbeats 4000000 in
set_option maxRecDepth 100000 in
theorem m_wouldMend {X : mi_X} {h : mi_H} {M : Nat} (hw : mo_W M h) (hc : h.2 M = mo_c M 0 mo_0) {k : Nat} (hk : k < 240) {y : Int32} (h1 : ¬ y < 0) (h2 : ¬ (65535 : Int32) < y) : mi_S pP X kX9_wouldMend 2 [.ref M, .int (nI k), .int y] h 0 0 (fun r h1 => r = some (.int 2) ∧ mp M h 0 h1) := by
  refine enX9_wouldMend (Nat.le_of_ble_eq_true rfl) ?_
  refine mi_blk okX9_wouldMend 2 (pc' := 2) (lv' := [(0, .ref M), (1, .int (nI k)), (2, .int y)]) (st' := [.int (nI k), .ref M]) rfl ?_
  refine mi_callS okX9_wouldMend (mc := 0) (ms := 0) (mc' := 0) (ms' := 0) (As := [.int (nI k)]) (st := [.ref M]) rfl cs_RX9_166 rfl (by decide) (Nat.le_of_ble_eq_true rfl) (m_isNoSector_0 hk) (fun r h1 q => ?_)
  obtain ⟨rfl, e9⟩ := q; have e9 := e9.symm; subst e9
  change mi_WX _ pP X kX9_wouldMend 2 0 0 5 [(0, .ref M), (1, .int (nI k)), (2, .int y)] [.int 0, .ref M] h _
  refine mi_blk okX9_wouldMend 1 (pc' := 6) (lv' := [(0, .ref M), (1, .int (nI k)), (2, .int y)]) (st' := [.int 1, .int 0, .ref M]) rfl ?_
  refine mi_callV okX9_wouldMend (mc := 0) (ms := 0) (mc' := 0) (ms' := 0) (b := M) (As := [.int 0, .int 1]) (st := []) rfl cv_RX9_130 rfl (by decide) (show 6 ≤ _ by have := hw.1; omega) (show _ < h.1 by have := hw.1; omega) hc rfl (Nat.le_of_ble_eq_true rfl) (m_start_0 (h := h) (u := (0, 0, 0, 4, 0, 0, 0, 0, 0)) (show 6 ≤ _ by have := hw.1; omega) (show _ < h.1 by have := hw.1; omega) hc) (fun r h1 q => ?_)
  obtain ⟨rfl, e9⟩ := q; subst e9
  change mi_WX _ pP X kX9_wouldMend 2 0 0 9 [(0, .ref M), (1, .int (nI k)), (2, .int y)] [.int 0] (mi_set h M (.inr (9, [.int 0, .ref (M + 1), .ref (M + 2), .ref (M + 3), .ref (M + 4), .int 0, .int 0, .int 0, .int 4, .ref (M + 5), .int 0, .double 0, .int 0, .int 0, .int 0]))) _
  refine mi_if_ne okX9_wouldMend rfl rfl (fun c_9 => absurd (by decide) c_9) (fun c_9 => ?_)
  refine mi_blk okX9_wouldMend 3 (pc' := 15) (lv' := [(0, .ref M), (1, .int (nI k)), (2, .int y)]) (st' := [.int 0, .int y, .ref M]) rfl ?_
  refine mi_ldcw okX9_wouldMend (v := (65535 : Int32)) rfl kc_RX9_256 ?_
  refine mi_callS okX9_wouldMend (mc := 0) (ms := 0) (mc' := 0) (ms' := 0) (As := [.int y, .int 0, .int (65535 : Int32)]) (st := [.ref M]) rfl cs_RX9_46 rfl (by decide) (Nat.le_of_ble_eq_true rfl) (m_isIn_1 h1 h2) (fun r h1 q => ?_)
  obtain ⟨rfl, e9⟩ := q; have e9 := e9.symm; subst e9
  change mi_WX _ pP X kX9_wouldMend 2 0 0 21 [(0, .ref M), (1, .int (nI k)), (2, .int y)] [.int 1, .ref M] (mi_set h M (.inr (9, [.int 0, .ref (M + 1), .ref (M + 2), .ref (M + 3), .ref (M + 4), .int 0, .int 0, .int 0, .int 4, .ref (M + 5), .int 0, .double 0, .int 0, .int 0, .int 0]))) _
  refine mi_if_ne okX9_wouldMend rfl rfl (fun c_21 => ?_) (fun c_21 => absurd c_21 (by decide))
  refine mi_blk okX9_wouldMend 2 (pc' := 30) (lv' := [(0, .ref M), (1, .int (nI k)), (2, .int y)]) (st' := [.int 2, .int 0, .ref M]) rfl ?_
  refine mi_callV okX9_wouldMend (mc := 0) (ms := 0) (mc' := 0) (ms' := 0) (b := M) (As := [.int 0, .int 2]) (st := []) rfl cv_RX9_38 rfl (by decide) (show 6 ≤ _ by have := hw.1; omega) (show _ < h.1 by have := hw.1; omega) mi_set_self rfl (Nat.le_of_ble_eq_true rfl) (m_refuse_0 (h := (mi_set h M (.inr (9, [.int 0, .ref (M + 1), .ref (M + 2), .ref (M + 3), .ref (M + 4), .int 0, .int 0, .int 0, .int 4, .ref (M + 5), .int 0, .double 0, .int 0, .int 0, .int 0])))) (u := (0, 0, 0, 4, 0, 0, 0, 0, 0)) (show 6 ≤ _ by have := hw.1; omega) (show _ < h.1 by have := hw.1; omega) mi_set_self) (fun r h1 q => ?_)
  obtain ⟨rfl, e9⟩ := q; have e9 := e9.symm; subst e9
  change mi_WX _ pP X kX9_wouldMend 2 0 0 33 [(0, .ref M), (1, .int (nI k)), (2, .int y)] [.int 0] (mi_set h M (.inr (9, [.int 0, .ref (M + 1), .ref (M + 2), .ref (M + 3), .ref (M + 4), .int 0, .int 0, .int 0, .int 4, .ref (M + 5), .int 0, .double 0, .int 0, .int 0, .int 0]))) _
  refine mi_if_eq okX9_wouldMend rfl rfl (fun c_33 => ?_) (fun c_33 => absurd (by decide) c_33)
  refine mi_blk okX9_wouldMend 1 (pc' := 39) (lv' := [(0, .ref M), (1, .int (nI k)), (2, .int y)]) (st' := [.ref M]) rfl ?_
  refine mi_getf okX9_wouldMend rfl fg_RX9_11 (show 6 ≤ _ by have := hw.1; omega) (show _ < h.1 by have := hw.1; omega) mi_set_self (v := .ref (M + 1)) rfl ?_
  refine mi_blk okX9_wouldMend 1 (pc' := 43) (lv' := [(0, .ref M), (1, .int (nI k)), (2, .int y)]) (st' := [.int (nI k), .ref (M + 1)]) rfl ?_
  refine mo_aab okX9_wouldMend (k := k) rfl (hw.set _) hk ?_
  refine mi_ifnonnull_n okX9_wouldMend rfl ?_
  refine mi_blk okX9_wouldMend 1 (pc' := 48) (lv' := [(0, .ref M), (1, .int (nI k)), (2, .int y)]) (st' := [.int 2]) rfl ?_
  exact mi_ret_i okX9_wouldMend rfl rfl rfl ⟨rfl, mp.set (0, 0, 0, 4, 0, 0, 0, 0, 0)⟩
set_option maxHeartbeats 4000000 in
set_option maxRecDepth 100000 in
theorem m_wouldTake_n {X : mi_X} {h : mi_H} {M : Nat} (hw : mo_W M h) (hc : h.2 M = mo_c M 0 mo_0) {k : Nat} (hk : k < 240) {y : Int32} (hy : y < 1 ∨ 40 < y) : mi_S pP X kX9_wouldTake 2 [.ref M, .int (nI k), .int y] h 0 0 (fun r h1 => r = some (.double FP.dconst0) ∧ mp M h 2 h1) := by
  refine enX9_wouldTake (Nat.le_of_ble_eq_true rfl) ?_
  refine mi_blk okX9_wouldTake 2 (pc' := 2) (lv' := [(0, .ref M), (1, .int (nI k)), (2, .int y)]) (st' := [.int (nI k), .ref M]) rfl ?_
  refine mi_callS okX9_wouldTake (mc := 0) (ms := 0) (mc' := 0) (ms' := 0) (As := [.int (nI k)]) (st := [.ref M]) rfl cs_RX9_166 rfl (by decide) (Nat.le_of_ble_eq_true rfl) (m_isNoSector_0 hk) (fun r h1 q => ?_)
  obtain ⟨rfl, e9⟩ := q; have e9 := e9.symm; subst e9
  change mi_WX _ pP X kX9_wouldTake 2 0 0 5 [(0, .ref M), (1, .int (nI k)), (2, .int y)] [.int 0, .ref M] h _
  refine mi_blk okX9_wouldTake 1 (pc' := 6) (lv' := [(0, .ref M), (1, .int (nI k)), (2, .int y)]) (st' := [.int 1, .int 0, .ref M]) rfl ?_
  refine mi_callV okX9_wouldTake (mc := 0) (ms := 0) (mc' := 0) (ms' := 0) (b := M) (As := [.int 0, .int 1]) (st := []) rfl cv_RX9_130 rfl (by decide) (show 6 ≤ _ by have := hw.1; omega) (show _ < h.1 by have := hw.1; omega) hc rfl (Nat.le_of_ble_eq_true rfl) (m_start_0 (h := h) (u := (0, 0, 0, 4, 0, 0, 0, 0, 0)) (show 6 ≤ _ by have := hw.1; omega) (show _ < h.1 by have := hw.1; omega) hc) (fun r h1 q => ?_)
  obtain ⟨rfl, e9⟩ := q; subst e9
  change mi_WX _ pP X kX9_wouldTake 2 0 0 9 [(0, .ref M), (1, .int (nI k)), (2, .int y)] [.int 0] (mi_set h M (.inr (9, [.int 0, .ref (M + 1), .ref (M + 2), .ref (M + 3), .ref (M + 4), .int 0, .int 0, .int 0, .int 4, .ref (M + 5), .int 0, .double 0, .int 0, .int 0, .int 0]))) _
  refine mi_if_ne okX9_wouldTake rfl rfl (fun c_9 => absurd (by decide) c_9) (fun c_9 => ?_)
  refine mi_blk okX9_wouldTake 4 (pc' := 17) (lv' := [(0, .ref M), (1, .int (nI k)), (2, .int y)]) (st' := [.int 40, .int 1, .int y, .ref M]) rfl ?_
  refine mi_callS okX9_wouldTake (mc := 0) (ms := 0) (mc' := 0) (ms' := 0) (As := [.int y, .int 1, .int 40]) (st := [.ref M]) rfl cs_RX9_46 rfl (by decide) (Nat.le_of_ble_eq_true rfl) (m_isIn_0 hy) (fun r h1 q => ?_)
  obtain ⟨rfl, e9⟩ := q; have e9 := e9.symm; subst e9
  change mi_WX _ pP X kX9_wouldTake 2 0 0 20 [(0, .ref M), (1, .int (nI k)), (2, .int y)] [.int 0, .ref M] (mi_set h M (.inr (9, [.int 0, .ref (M + 1), .ref (M + 2), .ref (M + 3), .ref (M + 4), .int 0, .int 0, .int 0, .int 4, .ref (M + 5), .int 0, .double 0, .int 0, .int 0, .int 0]))) _
  refine mi_if_ne okX9_wouldTake rfl rfl (fun c_20 => absurd (by decide) c_20) (fun c_20 => ?_)
  refine mi_blk okX9_wouldTake 3 (pc' := 29) (lv' := [(0, .ref M), (1, .int (nI k)), (2, .int y)]) (st' := [.int 2, .int 1, .ref M]) rfl ?_
  refine mi_callV okX9_wouldTake (mc := 0) (ms := 0) (mc' := 0) (ms' := 0) (b := M) (As := [.int 1, .int 2]) (st := []) rfl cv_RX9_38 rfl (by decide) (show 6 ≤ _ by have := hw.1; omega) (show _ < h.1 by have := hw.1; omega) mi_set_self rfl (Nat.le_of_ble_eq_true rfl) (m_refuse_1 (h := (mi_set h M (.inr (9, [.int 0, .ref (M + 1), .ref (M + 2), .ref (M + 3), .ref (M + 4), .int 0, .int 0, .int 0, .int 4, .ref (M + 5), .int 0, .double 0, .int 0, .int 0, .int 0])))) (u := (0, 0, 0, 4, 0, 0, 0, 0, 0)) (show 6 ≤ _ by have := hw.1; omega) (show _ < h.1 by have := hw.1; omega) mi_set_self (by decide)) (fun r h1 q => ?_)
  obtain ⟨rfl, e9⟩ := q; rw [mi_set_set] at e9; subst e9
  change mi_WX _ pP X kX9_wouldTake 2 0 0 32 [(0, .ref M), (1, .int (nI k)), (2, .int y)] [.int 1] (mi_set h M (.inr (9, [.int 2, .ref (M + 1), .ref (M + 2), .ref (M + 3), .ref (M + 4), .int 0, .int 0, .int 0, .int 4, .ref (M + 5), .int 0, .double 0, .int 0, .int 0, .int 0]))) _
  refine mi_if_eq okX9_wouldTake rfl rfl (fun c_32 => absurd c_32 (by decide)) (fun c_32 => ?_)
  refine mi_blk okX9_wouldTake 1 (pc' := 36) (lv' := [(0, .ref M), (1, .int (nI k)), (2, .int y)]) (st' := [.double FP.dconst0]) rfl ?_
  exact mi_ret_d okX9_wouldTake rfl rfl ⟨rfl, mp.set (0, 0, 0, 4, 0, 0, 0, 0, 0)⟩
set_option maxHeartbeats 4000000 in
set_option maxRecDepth 100000 in
theorem m_rot_r {X : mi_X} {h : mi_H} {M : Nat} (hw : mo_W M h) (hc : h.2 M = mo_c M 0 mo_0) {x : Int32} (hx : x < 0 ∨ 999 < x) : mi_S pP X kX9_rot 2 [.ref M, .int x] h 0 0 (fun r h1 => r = some (.int 0) ∧ mp M h 1 h1) := by
  refine enX9_rot (Nat.le_of_ble_eq_true rfl) ?_
  refine mi_blk okX9_rot 4 (pc' := 6) (lv' := [(0, .ref M), (1, .int x)]) (st' := [.int 999, .int 0, .int x, .ref M]) rfl ?_
  refine mi_callS okX9_rot (mc := 0) (ms := 0) (mc' := 0) (ms' := 0) (As := [.int x, .int 0, .int 999]) (st := [.ref M]) rfl cs_RX9_46 rfl (by decide) (Nat.le_of_ble_eq_true rfl) (m_isIn_0 hx) (fun r h1 q => ?_)
  obtain ⟨rfl, e9⟩ := q; have e9 := e9.symm; subst e9
  change mi_WX _ pP X kX9_rot 2 0 0 9 [(0, .ref M), (1, .int x)] [.int 0, .ref M] h _
  refine mi_if_ne okX9_rot rfl rfl (fun c_9 => absurd (by decide) c_9) (fun c_9 => ?_)
  refine mi_blk okX9_rot 3 (pc' := 18) (lv' := [(0, .ref M), (1, .int x)]) (st' := [.int 1, .int 1, .ref M]) rfl ?_
  refine mi_callV okX9_rot (mc := 0) (ms := 0) (mc' := 0) (ms' := 0) (b := M) (As := [.int 1, .int 1]) (st := []) rfl cv_RX9_130 rfl (by decide) (show 6 ≤ _ by have := hw.1; omega) (show _ < h.1 by have := hw.1; omega) hc rfl (Nat.le_of_ble_eq_true rfl) (m_start_1 (h := h) (u := (0, 0, 0, 4, 0, 0, 0, 0, 0)) (show 6 ≤ _ by have := hw.1; omega) (show _ < h.1 by have := hw.1; omega) hc (by decide)) (fun r h1 q => ?_)
  obtain ⟨rfl, e9⟩ := q; subst e9
  change mi_WX _ pP X kX9_rot 2 0 0 21 [(0, .ref M), (1, .int x)] [.int 1] (mi_set h M (.inr (9, [.int 1, .ref (M + 1), .ref (M + 2), .ref (M + 3), .ref (M + 4), .int 0, .int 0, .int 0, .int 4, .ref (M + 5), .int 0, .double 0, .int 0, .int 0, .int 0]))) _
  refine mi_if_eq okX9_rot rfl rfl (fun c_21 => absurd c_21 (by decide)) (fun c_21 => ?_)
  refine mi_blk okX9_rot 1 (pc' := 25) (lv' := [(0, .ref M), (1, .int x)]) (st' := [.int 0]) rfl ?_
  exact mi_ret_i okX9_rot rfl rfl rfl ⟨rfl, mp.set (0, 0, 0, 4, 0, 0, 0, 0, 0)⟩
set_option maxHeartbeats 4000000 in
set_option maxRecDepth 100000 in
theorem m_many_w {X : mi_X} {h : mi_H} {M : Nat} (hw : mo_W M h) (hc : h.2 M = mo_c M 0 mo_0) {x : Int32} (hx : x < 0 ∨ 12 < x) : mi_S pP X kX9_many 2 [.ref M, .int x] h 0 0 (fun r h1 => r = some (.int 0) ∧ mp M h 1 h1) := by
  refine enX9_many (Nat.le_of_ble_eq_true rfl) ?_
  refine mi_blk okX9_many 4 (pc' := 5) (lv' := [(0, .ref M), (1, .int x)]) (st' := [.int 12, .int 0, .int x, .ref M]) rfl ?_
  refine mi_callS okX9_many (mc := 0) (ms := 0) (mc' := 0) (ms' := 0) (As := [.int x, .int 0, .int 12]) (st := [.ref M]) rfl cs_RX9_46 rfl (by decide) (Nat.le_of_ble_eq_true rfl) (m_isIn_0 hx) (fun r h1 q => ?_)
  obtain ⟨rfl, e9⟩ := q; have e9 := e9.symm; subst e9
  change mi_WX _ pP X kX9_many 2 0 0 8 [(0, .ref M), (1, .int x)] [.int 0, .ref M] h _
  refine mi_if_ne okX9_many rfl rfl (fun c_8 => absurd (by decide) c_8) (fun c_8 => ?_)
  refine mi_blk okX9_many 3 (pc' := 17) (lv' := [(0, .ref M), (1, .int x)]) (st' := [.int 1, .int 1, .ref M]) rfl ?_
  refine mi_callV okX9_many (mc := 0) (ms := 0) (mc' := 0) (ms' := 0) (b := M) (As := [.int 1, .int 1]) (st := []) rfl cv_RX9_130 rfl (by decide) (show 6 ≤ _ by have := hw.1; omega) (show _ < h.1 by have := hw.1; omega) hc rfl (Nat.le_of_ble_eq_true rfl) (m_start_1 (h := h) (u := (0, 0, 0, 4, 0, 0, 0, 0, 0)) (show 6 ≤ _ by have := hw.1; omega) (show _ < h.1 by have := hw.1; omega) hc (by decide)) (fun r h1 q => ?_)
  obtain ⟨rfl, e9⟩ := q; subst e9
  change mi_WX _ pP X kX9_many 2 0 0 20 [(0, .ref M), (1, .int x)] [.int 1] (mi_set h M (.inr (9, [.int 1, .ref (M + 1), .ref (M + 2), .ref (M + 3), .ref (M + 4), .int 0, .int 0, .int 0, .int 4, .ref (M + 5), .int 0, .double 0, .int 0, .int 0, .int 0]))) _
  refine mi_if_eq okX9_many rfl rfl (fun c_20 => absurd c_20 (by decide)) (fun c_20 => ?_)
  refine mi_blk okX9_many 2 (pc' := 32) (lv' := [(0, .ref M), (1, .int x)]) (st' := [.int 0]) rfl ?_
  exact mi_ret_i okX9_many rfl rfl rfl ⟨rfl, mp.set (0, 0, 0, 4, 0, 0, 0, 0, 0)⟩
set_option maxHeartbeats 4000000 in
set_option maxRecDepth 100000 in
theorem m_file_f {X : mi_X} {h : mi_H} {M : Nat} (hw : mo_W M h) (hc : h.2 M = mo_c M 0 mo_0) {x y z : Int32} (hx : x < 0 ∨ nI 10 ≤ x) : mi_S pP X kX9_file 2 [.ref M, .int x, .int y, .int z] h 0 0 (fun r h1 => r = some (.int 0) ∧ mp M h 1 h1) := by
  refine enX9_file (Nat.le_of_ble_eq_true rfl) ?_
  refine mi_blk okX9_file 3 (pc' := 3) (lv' := [(0, .ref M), (1, .int x), (2, .int y), (3, .int z)]) (st' := [.int x, .ref M, .ref M]) rfl ?_
  refine mi_callV okX9_file (mc := 0) (ms := 0) (mc' := 0) (ms' := 0) (b := M) (As := [.int x]) (st := [.ref M]) rfl cv_RX9_163 rfl (by decide) (show 6 ≤ _ by have := hw.1; omega) (show _ < h.1 by have := hw.1; omega) hc rfl (Nat.le_of_ble_eq_true rfl) (m_isNoFile_1 hx) (fun r h1 q => ?_)
  obtain ⟨rfl, e9⟩ := q; have e9 := e9.symm; subst e9
  change mi_WX _ pP X kX9_file 2 0 0 6 [(0, .ref M), (1, .int x), (2, .int y), (3, .int z)] [.int 1, .ref M] h _
  refine mi_blk okX9_file 1 (pc' := 7) (lv' := [(0, .ref M), (1, .int x), (2, .int y), (3, .int z)]) (st' := [.int 1, .int 1, .ref M]) rfl ?_
  refine mi_callV okX9_file (mc := 0) (ms := 0) (mc' := 0) (ms' := 0) (b := M) (As := [.int 1, .int 1]) (st := []) rfl cv_RX9_130 rfl (by decide) (show 6 ≤ _ by have := hw.1; omega) (show _ < h.1 by have := hw.1; omega) hc rfl (Nat.le_of_ble_eq_true rfl) (m_start_1 (h := h) (u := (0, 0, 0, 4, 0, 0, 0, 0, 0)) (show 6 ≤ _ by have := hw.1; omega) (show _ < h.1 by have := hw.1; omega) hc (by decide)) (fun r h1 q => ?_)
  obtain ⟨rfl, e9⟩ := q; subst e9
  change mi_WX _ pP X kX9_file 2 0 0 10 [(0, .ref M), (1, .int x), (2, .int y), (3, .int z)] [.int 1] (mi_set h M (.inr (9, [.int 1, .ref (M + 1), .ref (M + 2), .ref (M + 3), .ref (M + 4), .int 0, .int 0, .int 0, .int 4, .ref (M + 5), .int 0, .double 0, .int 0, .int 0, .int 0]))) _
  refine mi_if_eq okX9_file rfl rfl (fun c_10 => absurd c_10 (by decide)) (fun c_10 => ?_)
  refine mi_blk okX9_file 1 (pc' := 14) (lv' := [(0, .ref M), (1, .int x), (2, .int y), (3, .int z)]) (st' := [.int 0]) rfl ?_
  exact mi_ret_i okX9_file rfl rfl rfl ⟨rfl, mp.set (0, 0, 0, 4, 0, 0, 0, 0, 0)⟩
