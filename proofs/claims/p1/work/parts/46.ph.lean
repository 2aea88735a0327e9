/-- the disc in h has become q in h1; nothing else has changed -/
def ph_X (B : Nat) (q : ph_T) (fi le : Nat → Nat → Int32) (h h1 : mi_H) : Prop := ph_W B q fi le h1 ∧ h1.1 = h.1 ∧ ∀ b, (b < B ∨ B + 518 ≤ b) → h1.2 b = h.2 b
section PHX
variable {B : Nat} {q : ph_T} {fi le : Nat → Nat → Int32} {h h1 : mi_H}
theorem ph_X.rf (hw : ph_W B q fi le h) : ph_X B q fi le h h := ⟨hw, rfl, fun _ _ => rfl⟩
theorem ph_X.tr {q' : ph_T} {fi' le' : Nat → Nat → Int32} {h2 : mi_H} (a : ph_X B q fi le h h1) (b : ph_X B q' fi' le' h1 h2) : ph_X B q' fi' le' h h2 := ⟨b.1, b.2.1.trans a.2.1, fun x hx => (b.2.2 x hx).trans (a.2.2 x hx)⟩
theorem ph_X.set_ph (hx : ph_X B q fi le h h1) (u : ph_U) : ph_X B (u, q.2) fi le h (mi_set h1 B (ph_c B u)) := ⟨hx.1.set_ph u, hx.2.1, fun b hb => (mi_set_ne (by omega)).trans (hx.2.2 b hb)⟩
theorem ph_X.set_dr (hx : ph_X B q fi le h h1) (i : Nat) (x : UInt64) (r t f : Int32) : ph_X B (q.1, q.2.1, q.2.2.1, q.2.2.2.1, (i, x, r, t, f), q.2.2.2.2.2) fi le h (mi_set h1 (B + 26) (dv_c i x r t f)) := ⟨hx.1.set_dr i x r t f, hx.2.1, fun b hb => (mi_set_ne (by omega)).trans (hx.2.2 b hb)⟩
theorem ph_X.set_cp (hx : ph_X B q fi le h h1) (v : Int64) (e : Int32) : ph_X B (q.1, q.2.1, q.2.2.1, q.2.2.2.1, q.2.2.2.2.1, (v, e), q.2.2.2.2.2.2) fi le h (mi_set h1 (B + 28) (bl_c v e)) := ⟨hx.1.set_cp v e, hx.2.1, fun b hb => (mi_set_ne (by omega)).trans (hx.2.2 b hb)⟩
theorem ph_X.set_mk (hx : ph_X B q fi le h h1) (k : mk_S) : ph_X B (q.1, q.2.1, q.2.2.1, q.2.2.2.1, q.2.2.2.2.1, q.2.2.2.2.2.1, k) fi le h (mi_set h1 (B + 29) (mk_c k)) := ⟨hx.1.set_mk k, hx.2.1, fun b hb => (mi_set_ne (by omega)).trans (hx.2.2 b hb)⟩
theorem ph_X.set_se (hx : ph_X B q fi le h h1) {s : Nat} (hs : s < 240) (w : se_S) : ph_X B (q.1, va_up q.2.1 s w, q.2.2) fi le h (mi_set h1 (B + 30 + 2 * s) (se_c (nI s) (B + 31 + 2 * s) w)) := ⟨hx.1.set_se s hs w, hx.2.1, fun b hb => (mi_set_ne (by omega)).trans (hx.2.2 b hb)⟩
theorem ph_X.set_bl (hx : ph_X B q fi le h h1) {s : Nat} (hs : s < 240) (w : Int64 × Int32) : ph_X B (q.1, q.2.1, va_up q.2.2.1 s w, q.2.2.2) fi le h (mi_set h1 (B + 31 + 2 * s) (bl_c w.1 w.2)) := ⟨hx.1.set_bl s hs w, hx.2.1, fun b hb => (mi_set_ne (by omega)).trans (hx.2.2 b hb)⟩
theorem ph_X.set_tr (hx : ph_X B q fi le h h1) {t : Nat} (ht : t < 8) (w : tr_S) : ph_X B (q.1, q.2.1, q.2.2.1, va_up q.2.2.2.1 t w, q.2.2.2.2) fi le h (mi_set h1 (B + 510 + t) (tr_c w)) := ⟨hx.1.set_tr t ht w, hx.2.1, fun b hb => (mi_set_ne (by omega)).trans (hx.2.2 b hb)⟩
end PHX
theorem c_left_eq {X : mi_X} {h : mi_H} {B : Nat} {q : ph_T} {fi le : Nat → Nat → Int32} (hw : ph_W B q fi le h) {v : Int32} (e : 240 - q.1.2.2.1 = v) : mi_S pP X kX8_left 0 [.ref B] h 0 0 (fun r h1 => r = some (.int v) ∧ h1 = h) := by
  rw [← e]
  exact c_left hw
set_option maxHeartbeats 4000000 in
set_option maxRecDepth 100000 in
theorem c_session {X : mi_X} {h : mi_H} {B : Nat} {q : (Nat → se_S) × (Nat → Int64 × Int32) × (Nat → tr_S) × (Nat × UInt64 × Int32 × Int32 × Int32) × (Int64 × Int32) × mk_S} {fi le : Nat → Nat → Int32} (hw : ph_W B ((0, 0, 0, 4, 0), q) fi le h) : mi_S pP X kX8_session 1 [.ref B] h 0 0 (fun r h1 => r = some (.int 0) ∧ ph_X B ((1, 0, 4, 3, 1), q) fi le h h1) := by
  refine enX8_session (Nat.le_of_ble_eq_true rfl) ?_
  refine mi_blk okX8_session 1 (pc' := 1) (lv' := [(0, .ref B)]) (st' := [.ref B]) rfl ?_
  refine mi_getf okX8_session rfl fg_RX8_55 (show 6 ≤ _ by have := hw.z; omega) (show _ < h.1 by have := hw.z; omega) hw.ph (v := .int 0) rfl ?_
  refine mi_if_ne okX8_session rfl rfl (fun c_4 => absurd (by decide) c_4) (fun c_4 => ?_)
  refine mi_blk okX8_session 1 (pc' := 8) (lv' := [(0, .ref B)]) (st' := [.ref B]) rfl ?_
  refine mi_getf okX8_session rfl fg_RX8_42 (show 6 ≤ _ by have := hw.z; omega) (show _ < h.1 by have := hw.z; omega) hw.ph (v := .int 0) rfl ?_
  refine mi_blk okX8_session 1 (pc' := 12) (lv' := [(0, .ref B)]) (st' := [.int 3, .int 0]) rfl ?_
  refine mi_ic_ge okX8_session rfl rfl (fun c_12 => absurd c_12 (by decide)) (fun c_12 => ?_)
  refine mi_blk okX8_session 1 (pc' := 16) (lv' := [(0, .ref B)]) (st' := [.ref B]) rfl ?_
  refine mi_getf okX8_session rfl fg_RX8_52 (show 6 ≤ _ by have := hw.z; omega) (show _ < h.1 by have := hw.z; omega) hw.ph (v := .int 4) rfl ?_
  refine mi_if_le okX8_session rfl rfl (fun c_19 => absurd c_19 (by decide)) (fun c_19 => ?_)
  refine mi_blk okX8_session 1 (pc' := 23) (lv' := [(0, .ref B)]) (st' := [.ref B]) rfl ?_
  refine mi_callV okX8_session (mc := 0) (ms := 0) (mc' := 0) (ms' := 0) (b := B) (As := []) (st := []) rfl cv_RX8_63 rfl (by decide) (show 6 ≤ _ by have := hw.z; omega) (show _ < h.1 by have := hw.z; omega) hw.ph rfl (Nat.le_of_ble_eq_true rfl) (c_left_eq hw (show (240 : Int32) - 0 = 240 by decide)) (fun r h1 q => ?_)
  obtain ⟨rfl, e9⟩ := q; have e9 := e9.symm; subst e9
  change mi_W pP X kX8_session 1 0 0 26 [(0, .ref B)] [.int 240] h _
  refine mi_blk okX8_session 1 (pc' := 27) (lv' := [(0, .ref B)]) (st' := [.int 4, .int 240]) rfl ?_
  refine mi_ic_ge okX8_session rfl rfl (fun c_27 => ?_) (fun c_27 => absurd (by decide) c_27)
  refine mi_blk okX8_session 2 (pc' := 42) (lv' := [(0, .ref B)]) (st' := [.int 1, .ref B]) rfl ?_
  refine mi_putf' okX8_session rfl fd_RX8_55 (show 6 ≤ _ by have := hw.z; omega) (show _ < h.1 by have := hw.z; omega) hw.ph (fs' := [.ref (B + 1), .ref (B + 2), .ref (B + 3), .ref (B + 26), .ref (B + 27), .int 0, .int 0, .int 0, .int 4, .int 1]) rfl (Nat.le_of_ble_eq_true rfl) rfl rfl ?_
  refine mi_blk okX8_session 2 (pc' := 47) (lv' := [(0, .ref B)]) (st' := [.ref B, .ref B]) rfl ?_
  refine mi_getf okX8_session rfl fg_RX8_52 (show 6 ≤ _ by have := hw.z; omega) (show _ < h.1 by have := hw.z; omega) mi_set_self (v := .int 4) rfl ?_
  refine mi_blk okX8_session 2 (pc' := 52) (lv' := [(0, .ref B)]) (st' := [.int 3, .ref B]) rfl ?_
  refine mi_putf' okX8_session rfl fd_RX8_52 (show 6 ≤ _ by have := hw.z; omega) (show _ < h.1 by have := hw.z; omega) mi_set_self (fs' := [.ref (B + 1), .ref (B + 2), .ref (B + 3), .ref (B + 26), .ref (B + 27), .int 0, .int 0, .int 0, .int 3, .int 1]) rfl (Nat.le_of_ble_eq_true rfl) rfl rfl ?_
  rw [mi_set_set]
  refine mi_blk okX8_session 2 (pc' := 57) (lv' := [(0, .ref B)]) (st' := [.ref B, .ref B]) rfl ?_
  refine mi_getf okX8_session rfl fg_RX8_49 (show 6 ≤ _ by have := hw.z; omega) (show _ < h.1 by have := hw.z; omega) mi_set_self (v := .int 0) rfl ?_
  refine mi_blk okX8_session 2 (pc' := 62) (lv' := [(0, .ref B)]) (st' := [.int 4, .ref B]) rfl ?_
  refine mi_putf' okX8_session rfl fd_RX8_49 (show 6 ≤ _ by have := hw.z; omega) (show _ < h.1 by have := hw.z; omega) mi_set_self (fs' := [.ref (B + 1), .ref (B + 2), .ref (B + 3), .ref (B + 26), .ref (B + 27), .int 0, .int 0, .int 4, .int 3, .int 1]) rfl (Nat.le_of_ble_eq_true rfl) rfl rfl ?_
  rw [mi_set_set]
  refine mi_blk okX8_session 2 (pc' := 67) (lv' := [(0, .ref B)]) (st' := [.ref B, .ref B]) rfl ?_
  refine mi_getf okX8_session rfl fg_RX8_42 (show 6 ≤ _ by have := hw.z; omega) (show _ < h.1 by have := hw.z; omega) mi_set_self (v := .int 0) rfl ?_
  refine mi_blk okX8_session 2 (pc' := 72) (lv' := [(0, .ref B)]) (st' := [.int 1, .ref B]) rfl ?_
  refine mi_putf' okX8_session rfl fd_RX8_42 (show 6 ≤ _ by have := hw.z; omega) (show _ < h.1 by have := hw.z; omega) mi_set_self (fs' := [.ref (B + 1), .ref (B + 2), .ref (B + 3), .ref (B + 26), .ref (B + 27), .int 1, .int 0, .int 4, .int 3, .int 1]) rfl (Nat.le_of_ble_eq_true rfl) rfl rfl ?_
  rw [mi_set_set]
  refine mi_blk okX8_session 1 (pc' := 76) (lv' := [(0, .ref B)]) (st' := [.ref B]) rfl ?_
  refine mi_getf okX8_session rfl fg_RX8_42 (show 6 ≤ _ by have := hw.z; omega) (show _ < h.1 by have := hw.z; omega) mi_set_self (v := .int 1) rfl ?_
  refine mi_blk okX8_session 2 (pc' := 81) (lv' := [(0, .ref B)]) (st' := [.int 0]) rfl ?_
  exact mi_ret_i okX8_session rfl rfl rfl ⟨rfl, (ph_X.rf hw).set_ph (1, 0, 4, 3, 1)⟩
set_option maxHeartbeats 4000000 in
set_option maxRecDepth 100000 in
theorem c_track_0 {X : mi_X} {h : mi_H} {B : Nat} {q : (Nat → se_S) × (Nat → Int64 × Int32) × (Nat → tr_S) × (Nat × UInt64 × Int32 × Int32 × Int32) × (Int64 × Int32) × mk_S} {fi le : Nat → Nat → Int32} {t x g : Nat} {c : Int32} (hw : ph_W B ((1, nI t, nI x, c, 1), q) fi le h) (ht : t < 8) (hg1 : 1 ≤ g) (hg2 : g ≤ 40) (hx : x + 2 + g ≤ 240) : mi_S pP X kX8_track 1 [.ref B, .int 0, .int (nI g)] h 0 0 (fun r h1 => r = some (.int (nI x + 2)) ∧ ph_X B ((1, nI t + 1, nI x + 2 + nI g, c, 1), q.1, q.2.1, va_up q.2.2.1 t (0, 0, nI x + 2, nI g, (q.2.2.1 t).2.2.2.2), q.2.2.2) fi le h h1) := by
  refine enX8_track (Nat.le_of_ble_eq_true rfl) ?_
  refine mi_blk okX8_track 1 (pc' := 1) (lv' := [(0, .ref B), (1, .int 0), (2, .int (nI g))]) (st' := [.int 0]) rfl ?_
  refine mi_if_eq okX8_track rfl rfl (fun c_1 => ?_) (fun c_1 => absurd (by decide) c_1)
  refine mi_blk okX8_track 2 (pc' := 11) (lv' := [(0, .ref B), (1, .int 0), (2, .int (nI g))]) (st' := [.int 1, .int (nI g)]) rfl ?_
  refine mi_ic_lt okX8_track rfl rfl (fun c_11 => absurd c_11 (nI_nlt (a := g) (b := 1) hg1 (by omega))) (fun c_11 => ?_)
  refine mi_blk okX8_track 2 (pc' := 17) (lv' := [(0, .ref B), (1, .int 0), (2, .int (nI g))]) (st' := [.int 40, .int (nI g)]) rfl ?_
  refine mi_ic_le okX8_track rfl rfl (fun c_17 => ?_) (fun c_17 => absurd (nI_le (a := g) (b := 40) hg2 (by decide)) c_17)
  refine mi_blk okX8_track 1 (pc' := 31) (lv' := [(0, .ref B), (1, .int 0), (2, .int (nI g))]) (st' := [.ref B]) rfl ?_
  refine mi_getf okX8_track rfl fg_RX8_55 (show 6 ≤ _ by have := hw.z; omega) (show _ < h.1 by have := hw.z; omega) hw.ph (v := .int 1) rfl ?_
  refine mi_if_eq okX8_track rfl rfl (fun c_34 => absurd c_34 (by decide)) (fun c_34 => ?_)
  refine mi_blk okX8_track 1 (pc' := 38) (lv' := [(0, .ref B), (1, .int 0), (2, .int (nI g))]) (st' := [.ref B]) rfl ?_
  refine mi_getf okX8_track rfl fg_RX8_46 (show 6 ≤ _ by have := hw.z; omega) (show _ < h.1 by have := hw.z; omega) hw.ph (v := .int (nI t)) rfl ?_
  refine mi_blk okX8_track 1 (pc' := 43) (lv' := [(0, .ref B), (1, .int 0), (2, .int (nI g))]) (st' := [.int 8, .int (nI t)]) rfl ?_
  refine mi_ic_ge okX8_track rfl rfl (fun c_43 => absurd c_43 (nI_ge (a := t) (b := 8) ht (by decide))) (fun c_43 => ?_)
  refine mi_blk okX8_track 1 (pc' := 47) (lv' := [(0, .ref B), (1, .int 0), (2, .int (nI g))]) (st' := [.ref B]) rfl ?_
  refine mi_callV okX8_track (mc := 0) (ms := 0) (mc' := 0) (ms' := 0) (b := B) (As := []) (st := []) rfl cv_RX8_63 rfl (by decide) (show 6 ≤ _ by have := hw.z; omega) (show _ < h.1 by have := hw.z; omega) hw.ph rfl (Nat.le_of_ble_eq_true rfl) (c_left hw) (fun r h1 q => ?_)
  obtain ⟨rfl, e9⟩ := q; have e9 := e9.symm; subst e9
  change mi_W pP X kX8_track 1 0 0 50 [(0, .ref B), (1, .int 0), (2, .int (nI g))] [.int (240 - nI x)] h _
  refine mi_blk okX8_track 3 (pc' := 53) (lv' := [(0, .ref B), (1, .int 0), (2, .int (nI g))]) (st' := [.int (2 + (nI g)), .int (240 - nI x)]) rfl ?_
  refine mi_ic_ge okX8_track rfl rfl (fun c_53 => ?_) (fun c_53 => absurd (by rw [show (240 : Int32) - nI x = nI (240 - x) from pk_sub (a := 240) (by omega), show (2 : Int32) + nI g = nI (2 + g) from nI_add 2 g]; exact nI_le (by omega) (by omega)) c_53)
  refine mi_blk okX8_track 1 (pc' := 67) (lv' := [(0, .ref B), (1, .int 0), (2, .int (nI g))]) (st' := [.ref B]) rfl ?_
  refine mi_getf okX8_track rfl fg_RX8_17 (show 6 ≤ _ by have := hw.z; omega) (show _ < h.1 by have := hw.z; omega) hw.ph (v := .ref (B + 2)) rfl ?_
  refine mi_blk okX8_track 1 (pc' := 71) (lv' := [(0, .ref B), (1, .int 0), (2, .int (nI g))]) (st' := [.ref B, .ref (B + 2)]) rfl ?_
  refine mi_getf okX8_track rfl fg_RX8_46 (show 6 ≤ _ by have := hw.z; omega) (show _ < h.1 by have := hw.z; omega) hw.ph (v := .int (nI t)) rfl ?_
  refine ph_aaT okX8_track (s := t) rfl hw ht ?_
  refine mi_blk okX8_track 3 (pc' := 78) (lv' := [(3, .ref (B + 510 + t)), (0, .ref B), (1, .int 0), (2, .int (nI g))]) (st' := [.ref B, .ref (B + 510 + t)]) rfl ?_
  refine mi_getf okX8_track rfl fg_RX8_42 (show 6 ≤ _ by have := hw.z; omega) (show _ < h.1 by have := hw.z; omega) hw.ph (v := .int 1) rfl ?_
  refine mi_blk okX8_track 4 (pc' := 85) (lv' := [(3, .ref (B + 510 + t)), (0, .ref B), (1, .int 0), (2, .int (nI g))]) (st' := [.ref B, .int 0, .int 0, .ref (B + 510 + t)]) rfl ?_
  refine mi_getf okX8_track rfl fg_RX8_49 (show 6 ≤ _ by have := hw.z; omega) (show _ < h.1 by have := hw.z; omega) hw.ph (v := .int (nI x)) rfl ?_
  refine mi_blk okX8_track 3 (pc' := 91) (lv' := [(3, .ref (B + 510 + t)), (0, .ref B), (1, .int 0), (2, .int (nI g))]) (st' := [.int (nI g), .int ((nI x) + 2), .int 0, .int 0, .ref (B + 510 + t)]) rfl ?_
  refine mi_callV okX8_track (mc := 0) (ms := 0) (mc' := 0) (ms' := 0) (b := (B + 510 + t)) (As := [.int 0, .int 0, .int ((nI x) + 2), .int (nI g)]) (st := []) rfl cv_RX8_81 rfl (by decide) (show 6 ≤ _ by have := hw.z; omega) (show _ < h.1 by have := hw.z; omega) (hw.tr t ht) rfl (Nat.le_of_ble_eq_true rfl) (c_reserve (show 6 ≤ _ by have := hw.z; omega) (show _ < h.1 by have := hw.z; omega) (hw.tr t ht)) (fun r h1 q => ?_)
  obtain ⟨rfl, e9⟩ := q; have e9 := e9.symm; subst e9
  change mi_W pP X kX8_track 1 0 0 94 [(3, .ref (B + 510 + t)), (0, .ref B), (1, .int 0), (2, .int (nI g))] [] (mi_set h (B + 510 + t) (tr_c (0, 0, (nI x) + 2, (nI g), (q.2.2.1 t).2.2.2.2))) _
  refine mi_blk okX8_track 2 (pc' := 96) (lv' := [(3, .ref (B + 510 + t)), (0, .ref B), (1, .int 0), (2, .int (nI g))]) (st' := [.ref B, .ref B]) rfl ?_
  refine mi_getf okX8_track rfl fg_RX8_46 (show 6 ≤ _ by have := hw.z; omega) (show _ < h.1 by have := hw.z; omega) ((mi_set_ne (by omega)).trans hw.ph) (v := .int (nI t)) rfl ?_
  refine mi_blk okX8_track 2 (pc' := 101) (lv' := [(3, .ref (B + 510 + t)), (0, .ref B), (1, .int 0), (2, .int (nI g))]) (st' := [.int ((nI t) + 1), .ref B]) rfl ?_
  refine mi_putf' okX8_track rfl fd_RX8_46 (show 6 ≤ _ by have := hw.z; omega) (show _ < h.1 by have := hw.z; omega) ((mi_set_ne (by omega)).trans hw.ph) (fs' := [.ref (B + 1), .ref (B + 2), .ref (B + 3), .ref (B + 26), .ref (B + 27), .int 1, .int ((nI t) + 1), .int (nI x), .int c, .int 1]) rfl (Nat.le_of_ble_eq_true rfl) rfl rfl ?_
  refine mi_blk okX8_track 2 (pc' := 106) (lv' := [(3, .ref (B + 510 + t)), (0, .ref B), (1, .int 0), (2, .int (nI g))]) (st' := [.ref (B + 510 + t), .ref B]) rfl ?_
  refine mi_callV okX8_track (mc := 0) (ms := 0) (mc' := 0) (ms' := 0) (b := (B + 510 + t)) (As := []) (st := [.ref B]) rfl cv_RX8_85 rfl (by decide) (show 6 ≤ _ by have := hw.z; omega) (show _ < h.1 by have := hw.z; omega) ((mi_set_ne (by omega)).trans mi_set_self) rfl (Nat.le_of_ble_eq_true rfl) (c_behind (q := (0, 0, (nI x) + 2, (nI g), (q.2.2.1 t).2.2.2.2)) (show 6 ≤ _ by have := hw.z; omega) (show _ < h.1 by have := hw.z; omega) ((mi_set_ne (by omega)).trans mi_set_self)) (fun r h1 q => ?_)
  obtain ⟨rfl, e9⟩ := q; have e9 := e9.symm; subst e9
  change mi_W pP X kX8_track 1 0 0 109 [(3, .ref (B + 510 + t)), (0, .ref B), (1, .int 0), (2, .int (nI g))] [.int (((nI x) + 2) + (nI g)), .ref B] (mi_set (mi_set h (B + 510 + t) (tr_c (0, 0, (nI x) + 2, (nI g), (q.2.2.1 t).2.2.2.2))) B (.inr (0, [.ref (B + 1), .ref (B + 2), .ref (B + 3), .ref (B + 26), .ref (B + 27), .int 1, .int ((nI t) + 1), .int (nI x), .int c, .int 1]))) _
  refine mi_putf' okX8_track rfl fd_RX8_49 (show 6 ≤ _ by have := hw.z; omega) (show _ < h.1 by have := hw.z; omega) mi_set_self (fs' := [.ref (B + 1), .ref (B + 2), .ref (B + 3), .ref (B + 26), .ref (B + 27), .int 1, .int ((nI t) + 1), .int (((nI x) + 2) + (nI g)), .int c, .int 1]) rfl (Nat.le_of_ble_eq_true rfl) rfl rfl ?_
  rw [mi_set_set]
  refine mi_blk okX8_track 1 (pc' := 113) (lv' := [(3, .ref (B + 510 + t)), (0, .ref B), (1, .int 0), (2, .int (nI g))]) (st' := [.ref (B + 510 + t)]) rfl ?_
  refine mi_getf okX8_track rfl fg_RX8_88 (show 6 ≤ _ by have := hw.z; omega) (show _ < h.1 by have := hw.z; omega) ((mi_set_ne (by omega)).trans mi_set_self) (v := .int ((nI x) + 2)) rfl ?_
  exact mi_ret_i okX8_track rfl rfl rfl ⟨rfl, ((ph_X.rf hw).set_tr ht (0, 0, nI x + 2, nI g, (q.2.2.1 t).2.2.2.2)).set_ph (1, nI t + 1, nI x + 2 + nI g, c, 1)⟩
set_option maxHeartbeats 4000000 in
set_option maxRecDepth 100000 in
theorem c_track_1 {X : mi_X} {h : mi_H} {B : Nat} {q : (Nat → se_S) × (Nat → Int64 × Int32) × (Nat → tr_S) × (Nat × UInt64 × Int32 × Int32 × Int32) × (Int64 × Int32) × mk_S} {fi le : Nat → Nat → Int32} {t x g : Nat} {c : Int32} (hw : ph_W B ((1, nI t, nI x, c, 1), q) fi le h) (ht : t < 8) (hg1 : 1 ≤ g) (hg2 : g ≤ 40) (hx : x + 2 + g ≤ 240) : mi_S pP X kX8_track 1 [.ref B, .int 1, .int (nI g)] h 0 0 (fun r h1 => r = some (.int (nI x + 2)) ∧ ph_X B ((1, nI t + 1, nI x + 2 + nI g, c, 1), q.1, q.2.1, va_up q.2.2.1 t (0, 1, nI x + 2, nI g, (q.2.2.1 t).2.2.2.2), q.2.2.2) fi le h h1) := by
  refine enX8_track (Nat.le_of_ble_eq_true rfl) ?_
  refine mi_blk okX8_track 1 (pc' := 1) (lv' := [(0, .ref B), (1, .int 1), (2, .int (nI g))]) (st' := [.int 1]) rfl ?_
  refine mi_if_eq okX8_track rfl rfl (fun c_1 => absurd c_1 (by decide)) (fun c_1 => ?_)
  refine mi_blk okX8_track 2 (pc' := 6) (lv' := [(0, .ref B), (1, .int 1), (2, .int (nI g))]) (st' := [.int 1, .int 1]) rfl ?_
  refine mi_ic_ne okX8_track rfl rfl (fun c_6 => absurd (by decide) c_6) (fun c_6 => ?_)
  refine mi_blk okX8_track 2 (pc' := 11) (lv' := [(0, .ref B), (1, .int 1), (2, .int (nI g))]) (st' := [.int 1, .int (nI g)]) rfl ?_
  refine mi_ic_lt okX8_track rfl rfl (fun c_11 => absurd c_11 (nI_nlt (a := g) (b := 1) hg1 (by omega))) (fun c_11 => ?_)
  refine mi_blk okX8_track 2 (pc' := 17) (lv' := [(0, .ref B), (1, .int 1), (2, .int (nI g))]) (st' := [.int 40, .int (nI g)]) rfl ?_
  refine mi_ic_le okX8_track rfl rfl (fun c_17 => ?_) (fun c_17 => absurd (nI_le (a := g) (b := 40) hg2 (by decide)) c_17)
  refine mi_blk okX8_track 1 (pc' := 31) (lv' := [(0, .ref B), (1, .int 1), (2, .int (nI g))]) (st' := [.ref B]) rfl ?_
  refine mi_getf okX8_track rfl fg_RX8_55 (show 6 ≤ _ by have := hw.z; omega) (show _ < h.1 by have := hw.z; omega) hw.ph (v := .int 1) rfl ?_
  refine mi_if_eq okX8_track rfl rfl (fun c_34 => absurd c_34 (by decide)) (fun c_34 => ?_)
  refine mi_blk okX8_track 1 (pc' := 38) (lv' := [(0, .ref B), (1, .int 1), (2, .int (nI g))]) (st' := [.ref B]) rfl ?_
  refine mi_getf okX8_track rfl fg_RX8_46 (show 6 ≤ _ by have := hw.z; omega) (show _ < h.1 by have := hw.z; omega) hw.ph (v := .int (nI t)) rfl ?_
  refine mi_blk okX8_track 1 (pc' := 43) (lv' := [(0, .ref B), (1, .int 1), (2, .int (nI g))]) (st' := [.int 8, .int (nI t)]) rfl ?_
  refine mi_ic_ge okX8_track rfl rfl (fun c_43 => absurd c_43 (nI_ge (a := t) (b := 8) ht (by decide))) (fun c_43 => ?_)
  refine mi_blk okX8_track 1 (pc' := 47) (lv' := [(0, .ref B), (1, .int 1), (2, .int (nI g))]) (st' := [.ref B]) rfl ?_
  refine mi_callV okX8_track (mc := 0) (ms := 0) (mc' := 0) (ms' := 0) (b := B) (As := []) (st := []) rfl cv_RX8_63 rfl (by decide) (show 6 ≤ _ by have := hw.z; omega) (show _ < h.1 by have := hw.z; omega) hw.ph rfl (Nat.le_of_ble_eq_true rfl) (c_left hw) (fun r h1 q => ?_)
  obtain ⟨rfl, e9⟩ := q; have e9 := e9.symm; subst e9
  change mi_W pP X kX8_track 1 0 0 50 [(0, .ref B), (1, .int 1), (2, .int (nI g))] [.int (240 - nI x)] h _
  refine mi_blk okX8_track 3 (pc' := 53) (lv' := [(0, .ref B), (1, .int 1), (2, .int (nI g))]) (st' := [.int (2 + (nI g)), .int (240 - nI x)]) rfl ?_
  refine mi_ic_ge okX8_track rfl rfl (fun c_53 => ?_) (fun c_53 => absurd (by rw [show (240 : Int32) - nI x = nI (240 - x) from pk_sub (a := 240) (by omega), show (2 : Int32) + nI g = nI (2 + g) from nI_add 2 g]; exact nI_le (by omega) (by omega)) c_53)
  refine mi_blk okX8_track 1 (pc' := 67) (lv' := [(0, .ref B), (1, .int 1), (2, .int (nI g))]) (st' := [.ref B]) rfl ?_
  refine mi_getf okX8_track rfl fg_RX8_17 (show 6 ≤ _ by have := hw.z; omega) (show _ < h.1 by have := hw.z; omega) hw.ph (v := .ref (B + 2)) rfl ?_
  refine mi_blk okX8_track 1 (pc' := 71) (lv' := [(0, .ref B), (1, .int 1), (2, .int (nI g))]) (st' := [.ref B, .ref (B + 2)]) rfl ?_
  refine mi_getf okX8_track rfl fg_RX8_46 (show 6 ≤ _ by have := hw.z; omega) (show _ < h.1 by have := hw.z; omega) hw.ph (v := .int (nI t)) rfl ?_
  refine ph_aaT okX8_track (s := t) rfl hw ht ?_
  refine mi_blk okX8_track 3 (pc' := 78) (lv' := [(3, .ref (B + 510 + t)), (0, .ref B), (1, .int 1), (2, .int (nI g))]) (st' := [.ref B, .ref (B + 510 + t)]) rfl ?_
  refine mi_getf okX8_track rfl fg_RX8_42 (show 6 ≤ _ by have := hw.z; omega) (show _ < h.1 by have := hw.z; omega) hw.ph (v := .int 1) rfl ?_
  refine mi_blk okX8_track 4 (pc' := 85) (lv' := [(3, .ref (B + 510 + t)), (0, .ref B), (1, .int 1), (2, .int (nI g))]) (st' := [.ref B, .int 1, .int 0, .ref (B + 510 + t)]) rfl ?_
  refine mi_getf okX8_track rfl fg_RX8_49 (show 6 ≤ _ by have := hw.z; omega) (show _ < h.1 by have := hw.z; omega) hw.ph (v := .int (nI x)) rfl ?_
  refine mi_blk okX8_track 3 (pc' := 91) (lv' := [(3, .ref (B + 510 + t)), (0, .ref B), (1, .int 1), (2, .int (nI g))]) (st' := [.int (nI g), .int ((nI x) + 2), .int 1, .int 0, .ref (B + 510 + t)]) rfl ?_
  refine mi_callV okX8_track (mc := 0) (ms := 0) (mc' := 0) (ms' := 0) (b := (B + 510 + t)) (As := [.int 0, .int 1, .int ((nI x) + 2), .int (nI g)]) (st := []) rfl cv_RX8_81 rfl (by decide) (show 6 ≤ _ by have := hw.z; omega) (show _ < h.1 by have := hw.z; omega) (hw.tr t ht) rfl (Nat.le_of_ble_eq_true rfl) (c_reserve (show 6 ≤ _ by have := hw.z; omega) (show _ < h.1 by have := hw.z; omega) (hw.tr t ht)) (fun r h1 q => ?_)
  obtain ⟨rfl, e9⟩ := q; have e9 := e9.symm; subst e9
  change mi_W pP X kX8_track 1 0 0 94 [(3, .ref (B + 510 + t)), (0, .ref B), (1, .int 1), (2, .int (nI g))] [] (mi_set h (B + 510 + t) (tr_c (0, 1, (nI x) + 2, (nI g), (q.2.2.1 t).2.2.2.2))) _
  refine mi_blk okX8_track 2 (pc' := 96) (lv' := [(3, .ref (B + 510 + t)), (0, .ref B), (1, .int 1), (2, .int (nI g))]) (st' := [.ref B, .ref B]) rfl ?_
  refine mi_getf okX8_track rfl fg_RX8_46 (show 6 ≤ _ by have := hw.z; omega) (show _ < h.1 by have := hw.z; omega) ((mi_set_ne (by omega)).trans hw.ph) (v := .int (nI t)) rfl ?_
  refine mi_blk okX8_track 2 (pc' := 101) (lv' := [(3, .ref (B + 510 + t)), (0, .ref B), (1, .int 1), (2, .int (nI g))]) (st' := [.int ((nI t) + 1), .ref B]) rfl ?_
  refine mi_putf' okX8_track rfl fd_RX8_46 (show 6 ≤ _ by have := hw.z; omega) (show _ < h.1 by have := hw.z; omega) ((mi_set_ne (by omega)).trans hw.ph) (fs' := [.ref (B + 1), .ref (B + 2), .ref (B + 3), .ref (B + 26), .ref (B + 27), .int 1, .int ((nI t) + 1), .int (nI x), .int c, .int 1]) rfl (Nat.le_of_ble_eq_true rfl) rfl rfl ?_
  refine mi_blk okX8_track 2 (pc' := 106) (lv' := [(3, .ref (B + 510 + t)), (0, .ref B), (1, .int 1), (2, .int (nI g))]) (st' := [.ref (B + 510 + t), .ref B]) rfl ?_
  refine mi_callV okX8_track (mc := 0) (ms := 0) (mc' := 0) (ms' := 0) (b := (B + 510 + t)) (As := []) (st := [.ref B]) rfl cv_RX8_85 rfl (by decide) (show 6 ≤ _ by have := hw.z; omega) (show _ < h.1 by have := hw.z; omega) ((mi_set_ne (by omega)).trans mi_set_self) rfl (Nat.le_of_ble_eq_true rfl) (c_behind (q := (0, 1, (nI x) + 2, (nI g), (q.2.2.1 t).2.2.2.2)) (show 6 ≤ _ by have := hw.z; omega) (show _ < h.1 by have := hw.z; omega) ((mi_set_ne (by omega)).trans mi_set_self)) (fun r h1 q => ?_)
  obtain ⟨rfl, e9⟩ := q; have e9 := e9.symm; subst e9
  change mi_W pP X kX8_track 1 0 0 109 [(3, .ref (B + 510 + t)), (0, .ref B), (1, .int 1), (2, .int (nI g))] [.int (((nI x) + 2) + (nI g)), .ref B] (mi_set (mi_set h (B + 510 + t) (tr_c (0, 1, (nI x) + 2, (nI g), (q.2.2.1 t).2.2.2.2))) B (.inr (0, [.ref (B + 1), .ref (B + 2), .ref (B + 3), .ref (B + 26), .ref (B + 27), .int 1, .int ((nI t) + 1), .int (nI x), .int c, .int 1]))) _
  refine mi_putf' okX8_track rfl fd_RX8_49 (show 6 ≤ _ by have := hw.z; omega) (show _ < h.1 by have := hw.z; omega) mi_set_self (fs' := [.ref (B + 1), .ref (B + 2), .ref (B + 3), .ref (B + 26), .ref (B + 27), .int 1, .int ((nI t) + 1), .int (((nI x) + 2) + (nI g)), .int c, .int 1]) rfl (Nat.le_of_ble_eq_true rfl) rfl rfl ?_
  rw [mi_set_set]
  refine mi_blk okX8_track 1 (pc' := 113) (lv' := [(3, .ref (B + 510 + t)), (0, .ref B), (1, .int 1), (2, .int (nI g))]) (st' := [.ref (B + 510 + t)]) rfl ?_
  refine mi_getf okX8_track rfl fg_RX8_88 (show 6 ≤ _ by have := hw.z; omega) (show _ < h.1 by have := hw.z; omega) ((mi_set_ne (by omega)).trans mi_set_self) (v := .int ((nI x) + 2)) rfl ?_
  exact mi_ret_i okX8_track rfl rfl rfl ⟨rfl, ((ph_X.rf hw).set_tr ht (0, 1, nI x + 2, nI g, (q.2.2.1 t).2.2.2.2)).set_ph (1, nI t + 1, nI x + 2 + nI g, c, 1)⟩
set_option maxHeartbeats 4000000 in
set_option maxRecDepth 100000 in
theorem c_write_0 {X : mi_X} (hX1 : mi_X1 X) (hX4 : mi_X4 X) {h : mi_H} {B : Nat} {q : ph_T} {fi le : Nat → Nat → Int32} (hw : ph_W B q fi le h) {t : Nat} (ht : t < 8) (htc : nI t < q.1.2.1) {s : Nat} (hs1 : s < 240) {m : Int64} (hm0 : ¬ lg_cmp m 0 < 0) (hm1 : lg_cmp m (68719476735 : Int64) ≤ 0) (hroom : ¬ tr_room (q.2.2.2.1 t) = 0) (hs : (q.2.2.2.1 t).2.2.1 + ((q.2.2.2.1 t).2.2.2.2.1 + 1) - 1 = nI s) (hmo : (q.2.2.2.1 t).2.1 = 0) : mi_S pP X kX8_write 6 [.ref B, .int (nI t), .long m] h 0 0 (fun r h1 => r = some (.int (nI s)) ∧ ph_X B (q.1, va_up q.2.1 s (se_rk (nI s) (1, 0, se_sum m, (q.2.1 s).2.2.2) (bl_spread (se_mix (nI s) m)) 0), va_up q.2.2.1 s ((bl_spread (se_mix (nI s) m)), 0), va_up q.2.2.2.1 t ((q.2.2.2.1 t).1, (q.2.2.2.1 t).2.1, (q.2.2.2.1 t).2.2.1, (q.2.2.2.1 t).2.2.2.1, (q.2.2.2.1 t).2.2.2.2.1 + 1, (q.2.2.2.1 t).2.2.2.2.2), q.2.2.2.2.1, ((bl_mend (bl_spread (se_mix (nI s) m)) 0).1, (bl_mend (bl_spread (se_mix (nI s) m)) 0).2), (mk_all (bl_spread (se_mix (nI s) m)) 16).1) fi le h h1) := by
  refine enX8_write (Nat.le_of_ble_eq_true rfl) ?_
  refine mi_blk okX8_write 2 (pc' := 2) (lv' := [(0, .ref B), (1, .int (nI t)), (2, .long m)]) (st' := [.int (nI t), .ref B]) rfl ?_
  refine mi_callV okX8_write (mc := 0) (ms := 0) (mc' := 0) (ms' := 0) (b := B) (As := [.int (nI t)]) (st := []) rfl cv_RX8_91 rfl (by decide) (show 6 ≤ _ by have := hw.z; omega) (show _ < h.1 by have := hw.z; omega) hw.ph rfl (Nat.le_of_ble_eq_true rfl) (c_trackAt hw ht htc) (fun r h1 q => ?_)
  obtain ⟨rfl, e9⟩ := q; have e9 := e9.symm; subst e9
  change mi_W pP X kX8_write 6 0 0 5 [(0, .ref B), (1, .int (nI t)), (2, .long m)] [.ref (B + 510 + t)] h _
  refine mi_blk okX8_write 4 (pc' := 10) (lv' := [(4, .ref (B + 510 + t)), (0, .ref B), (1, .int (nI t)), (2, .long m)]) (st' := [.int (lg_cmp m 0)]) rfl ?_
  refine mi_if_lt okX8_write rfl rfl (fun c_10 => absurd c_10 hm0) (fun c_10 => ?_)
  refine mi_blk okX8_write 1 (pc' := 14) (lv' := [(4, .ref (B + 510 + t)), (0, .ref B), (1, .int (nI t)), (2, .long m)]) (st' := [.long m]) rfl ?_
  refine mi_ldc2 okX8_write (v := (68719476735 : Int64)) rfl kc_RX8_95 ?_
  refine mi_blk okX8_write 1 (pc' := 18) (lv' := [(4, .ref (B + 510 + t)), (0, .ref B), (1, .int (nI t)), (2, .long m)]) (st' := [.int (lg_cmp m (68719476735 : Int64))]) rfl ?_
  refine mi_if_le okX8_write rfl rfl (fun c_18 => ?_) (fun c_18 => absurd hm1 c_18)
  refine mi_blk okX8_write 1 (pc' := 33) (lv' := [(4, .ref (B + 510 + t)), (0, .ref B), (1, .int (nI t)), (2, .long m)]) (st' := [.ref (B + 510 + t)]) rfl ?_
  refine mi_callV okX8_write (mc := 0) (ms := 0) (mc' := 0) (ms' := 0) (b := (B + 510 + t)) (As := []) (st := []) rfl cv_RX8_99 rfl (by decide) (show 6 ≤ _ by have := hw.z; omega) (show _ < h.1 by have := hw.z; omega) (hw.tr t ht) rfl (Nat.le_of_ble_eq_true rfl) (c_hasRoom (show 6 ≤ _ by have := hw.z; omega) (show _ < h.1 by have := hw.z; omega) (hw.tr t ht)) (fun r h1 q => ?_)
  obtain ⟨rfl, e9⟩ := q; have e9 := e9.symm; subst e9
  change mi_W pP X kX8_write 6 0 0 36 [(4, .ref (B + 510 + t)), (0, .ref B), (1, .int (nI t)), (2, .long m)] [.int (tr_room (q.2.2.2.1 t))] h _
  refine mi_if_ne okX8_write rfl rfl (fun c_36 => ?_) (fun c_36 => absurd c_36 hroom)
  refine mi_blk okX8_write 1 (pc' := 51) (lv' := [(4, .ref (B + 510 + t)), (0, .ref B), (1, .int (nI t)), (2, .long m)]) (st' := [.ref (B + 510 + t)]) rfl ?_
  refine mi_callV okX8_write (mc := 0) (ms := 0) (mc' := 0) (ms' := 0) (b := (B + 510 + t)) (As := []) (st := []) rfl cv_RX8_105 rfl (by decide) (show 6 ≤ _ by have := hw.z; omega) (show _ < h.1 by have := hw.z; omega) (hw.tr t ht) rfl (Nat.le_of_ble_eq_true rfl) (c_takeNext (q := ((q.2.2.2.1 t).1, (q.2.2.2.1 t).2.1, (q.2.2.2.1 t).2.2.1, (q.2.2.2.1 t).2.2.2.1, (q.2.2.2.1 t).2.2.2.2.1, (q.2.2.2.1 t).2.2.2.2.2.1, (q.2.2.2.1 t).2.2.2.2.2.2)) (show 6 ≤ _ by have := hw.z; omega) (show _ < h.1 by have := hw.z; omega) (hw.tr t ht)) (fun r h1 q => ?_)
  obtain ⟨rfl, e9⟩ := q; have e9 := e9.symm; subst e9
  change mi_W pP X kX8_write 6 0 0 54 [(4, .ref (B + 510 + t)), (0, .ref B), (1, .int (nI t)), (2, .long m)] [.int (((q.2.2.2.1 t).2.2.1) + (((q.2.2.2.1 t).2.2.2.2.1) + 1) - 1)] (mi_set h (B + 510 + t) (tr_c ((q.2.2.2.1 t).1, (q.2.2.2.1 t).2.1, (q.2.2.2.1 t).2.2.1, (q.2.2.2.1 t).2.2.2.1, (((q.2.2.2.1 t).2.2.2.2.1) + 1), (q.2.2.2.1 t).2.2.2.2.2.1, (q.2.2.2.1 t).2.2.2.2.2.2))) _
  refine mi_blk okX8_write 2 (pc' := 57) (lv' := [(5, .int (((q.2.2.2.1 t).2.2.1) + (((q.2.2.2.1 t).2.2.2.2.1) + 1) - 1)), (4, .ref (B + 510 + t)), (0, .ref B), (1, .int (nI t)), (2, .long m)]) (st' := [.ref B]) rfl ?_
  refine mi_getf okX8_write rfl fg_RX8_11 (show 6 ≤ _ by have := hw.z; omega) (show _ < h.1 by have := hw.z; omega) ((mi_set_ne (by omega)).trans hw.ph) (v := .ref (B + 1)) rfl ?_
  refine mi_blk okX8_write 1 (pc' := 62) (lv' := [(5, .int (((q.2.2.2.1 t).2.2.1) + (((q.2.2.2.1 t).2.2.2.2.1) + 1) - 1)), (4, .ref (B + 510 + t)), (0, .ref B), (1, .int (nI t)), (2, .long m)]) (st' := [.int (((q.2.2.2.1 t).2.2.1) + (((q.2.2.2.1 t).2.2.2.2.1) + 1) - 1), .ref (B + 1)]) rfl ?_
  rw [hs]
  refine ph_aaS okX8_write (s := s) rfl ((ph_X.rf hw).set_tr ht _).1 hs1 ?_
  refine mi_blk okX8_write 1 (pc' := 64) (lv' := [(5, .int (nI s)), (4, .ref (B + 510 + t)), (0, .ref B), (1, .int (nI t)), (2, .long m)]) (st' := [.long m, .ref (B + 30 + 2 * s)]) rfl ?_
  refine mi_blk okX8_write 1 (pc' := 66) (lv' := [(5, .int (nI s)), (4, .ref (B + 510 + t)), (0, .ref B), (1, .int (nI t)), (2, .long m)]) (st' := [.ref (B + 510 + t), .long m, .ref (B + 30 + 2 * s)]) rfl ?_
  refine mi_getf okX8_write rfl fg_RX8_108 (show 6 ≤ _ by have := hw.z; omega) (show _ < h.1 by have := hw.z; omega) mi_set_self (v := .int ((q.2.2.2.1 t).2.1)) rfl ?_
  refine mi_blk okX8_write 1 (pc' := 70) (lv' := [(5, .int (nI s)), (4, .ref (B + 510 + t)), (0, .ref B), (1, .int (nI t)), (2, .long m)]) (st' := [.int 1, .int ((q.2.2.2.1 t).2.1), .long m, .ref (B + 30 + 2 * s)]) rfl ?_
  refine mi_ic_ne okX8_write rfl rfl (fun c_70 => ?_) (fun c_70 => absurd c_70 (by rw [hmo]; decide))
  refine mi_blk okX8_write 2 (pc' := 79) (lv' := [(5, .int (nI s)), (4, .ref (B + 510 + t)), (0, .ref B), (1, .int (nI t)), (2, .long m)]) (st' := [.ref B, .int 0, .long m, .ref (B + 30 + 2 * s)]) rfl ?_
  refine mi_getf okX8_write rfl fg_RX8_38 (show 6 ≤ _ by have := hw.z; omega) (show _ < h.1 by have := hw.z; omega) ((mi_set_ne (by omega)).trans hw.ph) (v := .ref (B + 27)) rfl ?_
  refine mi_callV okX8_write (mc := 0) (ms := 0) (mc' := 0) (ms' := 0) (b := (B + 30 + 2 * s)) (As := [.long m, .int 0, .ref (B + 27)]) (st := []) rfl cv_RX8_111 rfl (by decide) (show 6 ≤ _ by have := hw.z; omega) (show _ < h.1 by have := hw.z; omega) ((mi_set_ne (by omega)).trans (hw.se s hs1)) rfl (Nat.le_of_ble_eq_true rfl) (c_fillWith (h := mi_set h (B + 510 + t) (tr_c ((q.2.2.2.1 t).1, (q.2.2.2.1 t).2.1, (q.2.2.2.1 t).2.2.1, (q.2.2.2.1 t).2.2.2.1, (((q.2.2.2.1 t).2.2.2.2.1) + 1), (q.2.2.2.1 t).2.2.2.2.2.1, (q.2.2.2.1 t).2.2.2.2.2.2))) hX1 hX4 (m := m) (da := 0) (show 6 ≤ _ by have := hw.z; omega) (show _ < h.1 by have := hw.z; omega) ((mi_set_ne (by omega)).trans (hw.se s hs1)) (show 6 ≤ _ by have := hw.z; omega) (show _ < h.1 by have := hw.z; omega) ((mi_set_ne (by omega)).trans (hw.bl s hs1)) (show 6 ≤ _ by have := hw.z; omega) (show _ < h.1 by have := hw.z; omega) ((mi_set_ne (by omega)).trans hw.be) (show 6 ≤ _ by have := hw.z; omega) (show _ < h.1 by have := hw.z; omega) ((mi_set_ne (by omega)).trans hw.cp) (show 6 ≤ _ by have := hw.z; omega) (show _ < h.1 by have := hw.z; omega) ((mi_set_ne (by omega)).trans hw.mk) (by omega) (by omega) (by omega) (by omega) (by omega) (by omega) (by omega) (by omega) (by omega) (by omega) (Or.inl rfl)) (fun r h1 q => ?_)
  obtain ⟨rfl, e9⟩ := q; have e9 := e9.symm; subst e9
  change mi_W pP X kX8_write 6 0 0 85 [(5, .int (nI s)), (4, .ref (B + 510 + t)), (0, .ref B), (1, .int (nI t)), (2, .long m)] [] (mi_set (mi_set (mi_set (mi_set (mi_set h (B + 510 + t) (tr_c ((q.2.2.2.1 t).1, (q.2.2.2.1 t).2.1, (q.2.2.2.1 t).2.2.1, (q.2.2.2.1 t).2.2.2.1, (((q.2.2.2.1 t).2.2.2.2.1) + 1), (q.2.2.2.1 t).2.2.2.2.2.1, (q.2.2.2.1 t).2.2.2.2.2.2))) (B + 31 + 2 * s) (bl_c (bl_spread (se_mix (nI s) m)) 0)) (B + 28) (bl_c (bl_mend (bl_spread (se_mix (nI s) m)) 0).1 (bl_mend (bl_spread (se_mix (nI s) m)) 0).2)) (B + 29) (mk_c (mk_all (bl_spread (se_mix (nI s) m)) 16).1)) (B + 30 + 2 * s) (se_c (nI s) (B + 31 + 2 * s) (se_rk (nI s) (1, 0, se_sum m, (q.2.1 s).2.2.2) (bl_spread (se_mix (nI s) m)) 0))) _
  refine mi_blk okX8_write 1 (pc' := 87) (lv' := [(5, .int (nI s)), (4, .ref (B + 510 + t)), (0, .ref B), (1, .int (nI t)), (2, .long m)]) (st' := [.int (nI s)]) rfl ?_
  exact mi_ret_i okX8_write rfl rfl rfl ⟨rfl, ((((((ph_X.rf hw).set_tr ht ((q.2.2.2.1 t).1, (q.2.2.2.1 t).2.1, (q.2.2.2.1 t).2.2.1, (q.2.2.2.1 t).2.2.2.1, (q.2.2.2.1 t).2.2.2.2.1 + 1, (q.2.2.2.1 t).2.2.2.2.2)).set_bl hs1 ((bl_spread (se_mix (nI s) m)), 0)).set_cp _ _).set_mk _).set_se hs1 (se_rk (nI s) (1, 0, se_sum m, (q.2.1 s).2.2.2) (bl_spread (se_mix (nI s) m)) 0))⟩
set_option maxHeartbeats 4000000 in
set_option maxRecDepth 100000 in
theorem c_write_1 {X : mi_X} (hX1 : mi_X1 X) (hX4 : mi_X4 X) {h : mi_H} {B : Nat} {q : ph_T} {fi le : Nat → Nat → Int32} (hw : ph_W B q fi le h) {t : Nat} (ht : t < 8) (htc : nI t < q.1.2.1) {s : Nat} (hs1 : s < 240) {m : Int64} (hm0 : ¬ lg_cmp m 0 < 0) (hm1 : lg_cmp m (68719476735 : Int64) ≤ 0) (hroom : ¬ tr_room (q.2.2.2.1 t) = 0) (hs : (q.2.2.2.1 t).2.2.1 + ((q.2.2.2.1 t).2.2.2.2.1 + 1) - 1 = nI s) (hmo : (q.2.2.2.1 t).2.1 = 1) : mi_S pP X kX8_write 6 [.ref B, .int (nI t), .long m] h 0 0 (fun r h1 => r = some (.int (nI s)) ∧ ph_X B (q.1, va_up q.2.1 s (se_rk (nI s) (1, 1, se_sum m, (q.2.1 s).2.2.2) (bl_spread (se_mix (nI s) m)) 0), va_up q.2.2.1 s ((bl_spread (se_mix (nI s) m)), 0), va_up q.2.2.2.1 t ((q.2.2.2.1 t).1, (q.2.2.2.1 t).2.1, (q.2.2.2.1 t).2.2.1, (q.2.2.2.1 t).2.2.2.1, (q.2.2.2.1 t).2.2.2.2.1 + 1, (q.2.2.2.1 t).2.2.2.2.2), q.2.2.2.2.1, ((bl_mend (bl_spread (se_mix (nI s) m)) 0).1, (bl_mend (bl_spread (se_mix (nI s) m)) 0).2), (mk_all (bl_spread (se_mix (nI s) m)) 16).1) fi le h h1) := by
  refine enX8_write (Nat.le_of_ble_eq_true rfl) ?_
  refine mi_blk okX8_write 2 (pc' := 2) (lv' := [(0, .ref B), (1, .int (nI t)), (2, .long m)]) (st' := [.int (nI t), .ref B]) rfl ?_
  refine mi_callV okX8_write (mc := 0) (ms := 0) (mc' := 0) (ms' := 0) (b := B) (As := [.int (nI t)]) (st := []) rfl cv_RX8_91 rfl (by decide) (show 6 ≤ _ by have := hw.z; omega) (show _ < h.1 by have := hw.z; omega) hw.ph rfl (Nat.le_of_ble_eq_true rfl) (c_trackAt hw ht htc) (fun r h1 q => ?_)
  obtain ⟨rfl, e9⟩ := q; have e9 := e9.symm; subst e9
  change mi_W pP X kX8_write 6 0 0 5 [(0, .ref B), (1, .int (nI t)), (2, .long m)] [.ref (B + 510 + t)] h _
  refine mi_blk okX8_write 4 (pc' := 10) (lv' := [(4, .ref (B + 510 + t)), (0, .ref B), (1, .int (nI t)), (2, .long m)]) (st' := [.int (lg_cmp m 0)]) rfl ?_
  refine mi_if_lt okX8_write rfl rfl (fun c_10 => absurd c_10 hm0) (fun c_10 => ?_)
  refine mi_blk okX8_write 1 (pc' := 14) (lv' := [(4, .ref (B + 510 + t)), (0, .ref B), (1, .int (nI t)), (2, .long m)]) (st' := [.long m]) rfl ?_
  refine mi_ldc2 okX8_write (v := (68719476735 : Int64)) rfl kc_RX8_95 ?_
  refine mi_blk okX8_write 1 (pc' := 18) (lv' := [(4, .ref (B + 510 + t)), (0, .ref B), (1, .int (nI t)), (2, .long m)]) (st' := [.int (lg_cmp m (68719476735 : Int64))]) rfl ?_
  refine mi_if_le okX8_write rfl rfl (fun c_18 => ?_) (fun c_18 => absurd hm1 c_18)
  refine mi_blk okX8_write 1 (pc' := 33) (lv' := [(4, .ref (B + 510 + t)), (0, .ref B), (1, .int (nI t)), (2, .long m)]) (st' := [.ref (B + 510 + t)]) rfl ?_
  refine mi_callV okX8_write (mc := 0) (ms := 0) (mc' := 0) (ms' := 0) (b := (B + 510 + t)) (As := []) (st := []) rfl cv_RX8_99 rfl (by decide) (show 6 ≤ _ by have := hw.z; omega) (show _ < h.1 by have := hw.z; omega) (hw.tr t ht) rfl (Nat.le_of_ble_eq_true rfl) (c_hasRoom (show 6 ≤ _ by have := hw.z; omega) (show _ < h.1 by have := hw.z; omega) (hw.tr t ht)) (fun r h1 q => ?_)
  obtain ⟨rfl, e9⟩ := q; have e9 := e9.symm; subst e9
  change mi_W pP X kX8_write 6 0 0 36 [(4, .ref (B + 510 + t)), (0, .ref B), (1, .int (nI t)), (2, .long m)] [.int (tr_room (q.2.2.2.1 t))] h _
  refine mi_if_ne okX8_write rfl rfl (fun c_36 => ?_) (fun c_36 => absurd c_36 hroom)
  refine mi_blk okX8_write 1 (pc' := 51) (lv' := [(4, .ref (B + 510 + t)), (0, .ref B), (1, .int (nI t)), (2, .long m)]) (st' := [.ref (B + 510 + t)]) rfl ?_
  refine mi_callV okX8_write (mc := 0) (ms := 0) (mc' := 0) (ms' := 0) (b := (B + 510 + t)) (As := []) (st := []) rfl cv_RX8_105 rfl (by decide) (show 6 ≤ _ by have := hw.z; omega) (show _ < h.1 by have := hw.z; omega) (hw.tr t ht) rfl (Nat.le_of_ble_eq_true rfl) (c_takeNext (q := ((q.2.2.2.1 t).1, (q.2.2.2.1 t).2.1, (q.2.2.2.1 t).2.2.1, (q.2.2.2.1 t).2.2.2.1, (q.2.2.2.1 t).2.2.2.2.1, (q.2.2.2.1 t).2.2.2.2.2.1, (q.2.2.2.1 t).2.2.2.2.2.2)) (show 6 ≤ _ by have := hw.z; omega) (show _ < h.1 by have := hw.z; omega) (hw.tr t ht)) (fun r h1 q => ?_)
  obtain ⟨rfl, e9⟩ := q; have e9 := e9.symm; subst e9
  change mi_W pP X kX8_write 6 0 0 54 [(4, .ref (B + 510 + t)), (0, .ref B), (1, .int (nI t)), (2, .long m)] [.int (((q.2.2.2.1 t).2.2.1) + (((q.2.2.2.1 t).2.2.2.2.1) + 1) - 1)] (mi_set h (B + 510 + t) (tr_c ((q.2.2.2.1 t).1, (q.2.2.2.1 t).2.1, (q.2.2.2.1 t).2.2.1, (q.2.2.2.1 t).2.2.2.1, (((q.2.2.2.1 t).2.2.2.2.1) + 1), (q.2.2.2.1 t).2.2.2.2.2.1, (q.2.2.2.1 t).2.2.2.2.2.2))) _
  refine mi_blk okX8_write 2 (pc' := 57) (lv' := [(5, .int (((q.2.2.2.1 t).2.2.1) + (((q.2.2.2.1 t).2.2.2.2.1) + 1) - 1)), (4, .ref (B + 510 + t)), (0, .ref B), (1, .int (nI t)), (2, .long m)]) (st' := [.ref B]) rfl ?_
  refine mi_getf okX8_write rfl fg_RX8_11 (show 6 ≤ _ by have := hw.z; omega) (show _ < h.1 by have := hw.z; omega) ((mi_set_ne (by omega)).trans hw.ph) (v := .ref (B + 1)) rfl ?_
  refine mi_blk okX8_write 1 (pc' := 62) (lv' := [(5, .int (((q.2.2.2.1 t).2.2.1) + (((q.2.2.2.1 t).2.2.2.2.1) + 1) - 1)), (4, .ref (B + 510 + t)), (0, .ref B), (1, .int (nI t)), (2, .long m)]) (st' := [.int (((q.2.2.2.1 t).2.2.1) + (((q.2.2.2.1 t).2.2.2.2.1) + 1) - 1), .ref (B + 1)]) rfl ?_
  rw [hs]
  refine ph_aaS okX8_write (s := s) rfl ((ph_X.rf hw).set_tr ht _).1 hs1 ?_
  refine mi_blk okX8_write 1 (pc' := 64) (lv' := [(5, .int (nI s)), (4, .ref (B + 510 + t)), (0, .ref B), (1, .int (nI t)), (2, .long m)]) (st' := [.long m, .ref (B + 30 + 2 * s)]) rfl ?_
  refine mi_blk okX8_write 1 (pc' := 66) (lv' := [(5, .int (nI s)), (4, .ref (B + 510 + t)), (0, .ref B), (1, .int (nI t)), (2, .long m)]) (st' := [.ref (B + 510 + t), .long m, .ref (B + 30 + 2 * s)]) rfl ?_
  refine mi_getf okX8_write rfl fg_RX8_108 (show 6 ≤ _ by have := hw.z; omega) (show _ < h.1 by have := hw.z; omega) mi_set_self (v := .int ((q.2.2.2.1 t).2.1)) rfl ?_
  refine mi_blk okX8_write 1 (pc' := 70) (lv' := [(5, .int (nI s)), (4, .ref (B + 510 + t)), (0, .ref B), (1, .int (nI t)), (2, .long m)]) (st' := [.int 1, .int ((q.2.2.2.1 t).2.1), .long m, .ref (B + 30 + 2 * s)]) rfl ?_
  refine mi_ic_ne okX8_write rfl rfl (fun c_70 => absurd hmo c_70) (fun c_70 => ?_)
  refine mi_blk okX8_write 3 (pc' := 79) (lv' := [(5, .int (nI s)), (4, .ref (B + 510 + t)), (0, .ref B), (1, .int (nI t)), (2, .long m)]) (st' := [.ref B, .int 1, .long m, .ref (B + 30 + 2 * s)]) rfl ?_
  refine mi_getf okX8_write rfl fg_RX8_38 (show 6 ≤ _ by have := hw.z; omega) (show _ < h.1 by have := hw.z; omega) ((mi_set_ne (by omega)).trans hw.ph) (v := .ref (B + 27)) rfl ?_
  refine mi_callV okX8_write (mc := 0) (ms := 0) (mc' := 0) (ms' := 0) (b := (B + 30 + 2 * s)) (As := [.long m, .int 1, .ref (B + 27)]) (st := []) rfl cv_RX8_111 rfl (by decide) (show 6 ≤ _ by have := hw.z; omega) (show _ < h.1 by have := hw.z; omega) ((mi_set_ne (by omega)).trans (hw.se s hs1)) rfl (Nat.le_of_ble_eq_true rfl) (c_fillWith (h := mi_set h (B + 510 + t) (tr_c ((q.2.2.2.1 t).1, (q.2.2.2.1 t).2.1, (q.2.2.2.1 t).2.2.1, (q.2.2.2.1 t).2.2.2.1, (((q.2.2.2.1 t).2.2.2.2.1) + 1), (q.2.2.2.1 t).2.2.2.2.2.1, (q.2.2.2.1 t).2.2.2.2.2.2))) hX1 hX4 (m := m) (da := 1) (show 6 ≤ _ by have := hw.z; omega) (show _ < h.1 by have := hw.z; omega) ((mi_set_ne (by omega)).trans (hw.se s hs1)) (show 6 ≤ _ by have := hw.z; omega) (show _ < h.1 by have := hw.z; omega) ((mi_set_ne (by omega)).trans (hw.bl s hs1)) (show 6 ≤ _ by have := hw.z; omega) (show _ < h.1 by have := hw.z; omega) ((mi_set_ne (by omega)).trans hw.be) (show 6 ≤ _ by have := hw.z; omega) (show _ < h.1 by have := hw.z; omega) ((mi_set_ne (by omega)).trans hw.cp) (show 6 ≤ _ by have := hw.z; omega) (show _ < h.1 by have := hw.z; omega) ((mi_set_ne (by omega)).trans hw.mk) (by omega) (by omega) (by omega) (by omega) (by omega) (by omega) (by omega) (by omega) (by omega) (by omega) (Or.inr rfl)) (fun r h1 q => ?_)
  obtain ⟨rfl, e9⟩ := q; have e9 := e9.symm; subst e9
  change mi_W pP X kX8_write 6 0 0 85 [(5, .int (nI s)), (4, .ref (B + 510 + t)), (0, .ref B), (1, .int (nI t)), (2, .long m)] [] (mi_set (mi_set (mi_set (mi_set (mi_set h (B + 510 + t) (tr_c ((q.2.2.2.1 t).1, (q.2.2.2.1 t).2.1, (q.2.2.2.1 t).2.2.1, (q.2.2.2.1 t).2.2.2.1, (((q.2.2.2.1 t).2.2.2.2.1) + 1), (q.2.2.2.1 t).2.2.2.2.2.1, (q.2.2.2.1 t).2.2.2.2.2.2))) (B + 31 + 2 * s) (bl_c (bl_spread (se_mix (nI s) m)) 0)) (B + 28) (bl_c (bl_mend (bl_spread (se_mix (nI s) m)) 0).1 (bl_mend (bl_spread (se_mix (nI s) m)) 0).2)) (B + 29) (mk_c (mk_all (bl_spread (se_mix (nI s) m)) 16).1)) (B + 30 + 2 * s) (se_c (nI s) (B + 31 + 2 * s) (se_rk (nI s) (1, 1, se_sum m, (q.2.1 s).2.2.2) (bl_spread (se_mix (nI s) m)) 0))) _
  refine mi_blk okX8_write 1 (pc' := 87) (lv' := [(5, .int (nI s)), (4, .ref (B + 510 + t)), (0, .ref B), (1, .int (nI t)), (2, .long m)]) (st' := [.int (nI s)]) rfl ?_
  exact mi_ret_i okX8_write rfl rfl rfl ⟨rfl, ((((((ph_X.rf hw).set_tr ht ((q.2.2.2.1 t).1, (q.2.2.2.1 t).2.1, (q.2.2.2.1 t).2.2.1, (q.2.2.2.1 t).2.2.2.1, (q.2.2.2.1 t).2.2.2.2.1 + 1, (q.2.2.2.1 t).2.2.2.2.2)).set_bl hs1 ((bl_spread (se_mix (nI s) m)), 0)).set_cp _ _).set_mk _).set_se hs1 (se_rk (nI s) (1, 1, se_sum m, (q.2.1 s).2.2.2) (bl_spread (se_mix (nI s) m)) 0))⟩
set_option maxHeartbeats 4000000 in
set_option maxRecDepth 100000 in
theorem c_starve {X : mi_X} {h : mi_H} {B : Nat} {q : ph_T} {fi le : Nat → Nat → Int32} (hw : ph_W B q fi le h) {t : Nat} (ht : t < 8) (htc : nI t < q.1.2.1) (hroom : ¬ tr_room (q.2.2.2.1 t) = 0) (hcal : 0 < q.1.2.2.2.1) : mi_S pP X kX8_starve 1 [.ref B, .int (nI t)] h 0 0 (fun r h1 => r = some (.int ((q.2.2.2.1 t).2.2.1 + ((q.2.2.2.1 t).2.2.2.2.1 + 1) - 1)) ∧ ph_X B ((q.1.1, q.1.2.1, q.1.2.2.1, q.1.2.2.2.1 - 1, q.1.2.2.2.2), q.2.1, q.2.2.1, va_up q.2.2.2.1 t ((q.2.2.2.1 t).1, (q.2.2.2.1 t).2.1, (q.2.2.2.1 t).2.2.1, (q.2.2.2.1 t).2.2.2.1, (q.2.2.2.1 t).2.2.2.2.1 + 1, (q.2.2.2.1 t).2.2.2.2.2.1 + 1, (q.2.2.2.1 t).2.2.2.2.2.2), q.2.2.2.2) fi le h h1) := by
  refine enX8_starve (Nat.le_of_ble_eq_true rfl) ?_
  refine mi_blk okX8_starve 2 (pc' := 2) (lv' := [(0, .ref B), (1, .int (nI t))]) (st' := [.int (nI t), .ref B]) rfl ?_
  refine mi_callV okX8_starve (mc := 0) (ms := 0) (mc' := 0) (ms' := 0) (b := B) (As := [.int (nI t)]) (st := []) rfl cv_RX8_91 rfl (by decide) (show 6 ≤ _ by have := hw.z; omega) (show _ < h.1 by have := hw.z; omega) hw.ph rfl (Nat.le_of_ble_eq_true rfl) (c_trackAt hw ht htc) (fun r h1 q => ?_)
  obtain ⟨rfl, e9⟩ := q; have e9 := e9.symm; subst e9
  change mi_W pP X kX8_starve 1 0 0 5 [(0, .ref B), (1, .int (nI t))] [.ref (B + 510 + t)] h _
  refine mi_blk okX8_starve 2 (pc' := 7) (lv' := [(2, .ref (B + 510 + t)), (0, .ref B), (1, .int (nI t))]) (st' := [.ref (B + 510 + t)]) rfl ?_
  refine mi_callV okX8_starve (mc := 0) (ms := 0) (mc' := 0) (ms' := 0) (b := (B + 510 + t)) (As := []) (st := []) rfl cv_RX8_99 rfl (by decide) (show 6 ≤ _ by have := hw.z; omega) (show _ < h.1 by have := hw.z; omega) (hw.tr t ht) rfl (Nat.le_of_ble_eq_true rfl) (c_hasRoom (show 6 ≤ _ by have := hw.z; omega) (show _ < h.1 by have := hw.z; omega) (hw.tr t ht)) (fun r h1 q => ?_)
  obtain ⟨rfl, e9⟩ := q; have e9 := e9.symm; subst e9
  change mi_W pP X kX8_starve 1 0 0 10 [(2, .ref (B + 510 + t)), (0, .ref B), (1, .int (nI t))] [.int (tr_room (q.2.2.2.1 t))] h _
  refine mi_if_eq okX8_starve rfl rfl (fun c_10 => absurd c_10 hroom) (fun c_10 => ?_)
  refine mi_blk okX8_starve 1 (pc' := 14) (lv' := [(2, .ref (B + 510 + t)), (0, .ref B), (1, .int (nI t))]) (st' := [.ref B]) rfl ?_
  refine mi_getf okX8_starve rfl fg_RX8_52 (show 6 ≤ _ by have := hw.z; omega) (show _ < h.1 by have := hw.z; omega) hw.ph (v := .int q.1.2.2.2.1) rfl ?_
  refine mi_if_gt okX8_starve rfl rfl (fun c_17 => ?_) (fun c_17 => absurd hcal c_17)
  refine mi_blk okX8_starve 2 (pc' := 32) (lv' := [(2, .ref (B + 510 + t)), (0, .ref B), (1, .int (nI t))]) (st' := [.ref B, .ref B]) rfl ?_
  refine mi_getf okX8_starve rfl fg_RX8_52 (show 6 ≤ _ by have := hw.z; omega) (show _ < h.1 by have := hw.z; omega) hw.ph (v := .int q.1.2.2.2.1) rfl ?_
  refine mi_blk okX8_starve 2 (pc' := 37) (lv' := [(2, .ref (B + 510 + t)), (0, .ref B), (1, .int (nI t))]) (st' := [.int (q.1.2.2.2.1 - 1), .ref B]) rfl ?_
  refine mi_putf' okX8_starve rfl fd_RX8_52 (show 6 ≤ _ by have := hw.z; omega) (show _ < h.1 by have := hw.z; omega) hw.ph (fs' := [.ref (B + 1), .ref (B + 2), .ref (B + 3), .ref (B + 26), .ref (B + 27), .int q.1.1, .int q.1.2.1, .int q.1.2.2.1, .int (q.1.2.2.2.1 - 1), .int q.1.2.2.2.2]) rfl (Nat.le_of_ble_eq_true rfl) rfl rfl ?_
  refine mi_blk okX8_starve 2 (pc' := 42) (lv' := [(2, .ref (B + 510 + t)), (0, .ref B), (1, .int (nI t))]) (st' := [.ref (B + 510 + t), .ref (B + 510 + t)]) rfl ?_
  refine mi_getf okX8_starve rfl fg_RX8_117 (show 6 ≤ _ by have := hw.z; omega) (show _ < h.1 by have := hw.z; omega) ((mi_set_ne (by omega)).trans (hw.tr t ht)) (v := .int ((q.2.2.2.1 t).2.2.2.2.2.1)) rfl ?_
  refine mi_blk okX8_starve 2 (pc' := 47) (lv' := [(2, .ref (B + 510 + t)), (0, .ref B), (1, .int (nI t))]) (st' := [.int (((q.2.2.2.1 t).2.2.2.2.2.1) + 1), .ref (B + 510 + t)]) rfl ?_
  refine mi_putf' okX8_starve rfl fd_RX8_117 (show 6 ≤ _ by have := hw.z; omega) (show _ < h.1 by have := hw.z; omega) ((mi_set_ne (by omega)).trans (hw.tr t ht)) (fs' := [.int ((q.2.2.2.1 t).1), .int ((q.2.2.2.1 t).2.1), .int ((q.2.2.2.1 t).2.2.1), .int ((q.2.2.2.1 t).2.2.2.1), .int ((q.2.2.2.1 t).2.2.2.2.1), .int (((q.2.2.2.1 t).2.2.2.2.2.1) + 1), .int ((q.2.2.2.1 t).2.2.2.2.2.2)]) rfl (Nat.le_of_ble_eq_true rfl) rfl rfl ?_
  refine mi_blk okX8_starve 1 (pc' := 51) (lv' := [(2, .ref (B + 510 + t)), (0, .ref B), (1, .int (nI t))]) (st' := [.ref (B + 510 + t)]) rfl ?_
  refine mi_callV okX8_starve (mc := 0) (ms := 0) (mc' := 0) (ms' := 0) (b := (B + 510 + t)) (As := []) (st := []) rfl cv_RX8_105 rfl (by decide) (show 6 ≤ _ by have := hw.z; omega) (show _ < h.1 by have := hw.z; omega) mi_set_self rfl (Nat.le_of_ble_eq_true rfl) (c_takeNext (q := ((q.2.2.2.1 t).1, (q.2.2.2.1 t).2.1, (q.2.2.2.1 t).2.2.1, (q.2.2.2.1 t).2.2.2.1, (q.2.2.2.1 t).2.2.2.2.1, ((q.2.2.2.1 t).2.2.2.2.2.1) + 1, (q.2.2.2.1 t).2.2.2.2.2.2)) (show 6 ≤ _ by have := hw.z; omega) (show _ < h.1 by have := hw.z; omega) mi_set_self) (fun r h1 q => ?_)
  obtain ⟨rfl, e9⟩ := q; have e9 := e9.symm; subst e9
  change mi_W pP X kX8_starve 1 0 0 54 [(2, .ref (B + 510 + t)), (0, .ref B), (1, .int (nI t))] [.int (((q.2.2.2.1 t).2.2.1) + (((q.2.2.2.1 t).2.2.2.2.1) + 1) - 1)] (mi_set (mi_set (mi_set h B (.inr (0, [.ref (B + 1), .ref (B + 2), .ref (B + 3), .ref (B + 26), .ref (B + 27), .int q.1.1, .int q.1.2.1, .int q.1.2.2.1, .int (q.1.2.2.2.1 - 1), .int q.1.2.2.2.2]))) (B + 510 + t) (.inr (8, [.int ((q.2.2.2.1 t).1), .int ((q.2.2.2.1 t).2.1), .int ((q.2.2.2.1 t).2.2.1), .int ((q.2.2.2.1 t).2.2.2.1), .int ((q.2.2.2.1 t).2.2.2.2.1), .int (((q.2.2.2.1 t).2.2.2.2.2.1) + 1), .int ((q.2.2.2.1 t).2.2.2.2.2.2)]))) (B + 510 + t) (tr_c ((q.2.2.2.1 t).1, (q.2.2.2.1 t).2.1, (q.2.2.2.1 t).2.2.1, (q.2.2.2.1 t).2.2.2.1, (((q.2.2.2.1 t).2.2.2.2.1) + 1), ((q.2.2.2.1 t).2.2.2.2.2.1) + 1, (q.2.2.2.1 t).2.2.2.2.2.2))) _
  rw [mi_set_set]
  exact mi_ret_i okX8_starve rfl rfl rfl ⟨rfl, ((ph_X.rf hw).set_ph (q.1.1, q.1.2.1, q.1.2.2.1, q.1.2.2.2.1 - 1, q.1.2.2.2.2)).set_tr ht ((q.2.2.2.1 t).1, (q.2.2.2.1 t).2.1, (q.2.2.2.1 t).2.2.1, (q.2.2.2.1 t).2.2.2.1, (q.2.2.2.1 t).2.2.2.2.1 + 1, (q.2.2.2.1 t).2.2.2.2.2.1 + 1, (q.2.2.2.1 t).2.2.2.2.2.2)⟩
set_option maxHeartbeats 4000000 in
set_option maxRecDepth 100000 in
theorem c_close_0 {X : mi_X} {h : mi_H} {B : Nat} {q : ph_T} {fi le : Nat → Nat → Int32} (hw : ph_W B q fi le h) {t : Nat} (ht : t < 8) (htc : nI t < q.1.2.1) (hcl : (q.2.2.2.1 t).2.2.2.2.2.2 = 0) (hl : ¬ nI t = q.1.2.1 - 1) : mi_S pP X kX8_close 1 [.ref B, .int (nI t)] h 0 0 (fun r h1 => r = some (.int 0) ∧ ph_X B (q.1, q.2.1, q.2.2.1, va_up q.2.2.2.1 t ((q.2.2.2.1 t).1, (q.2.2.2.1 t).2.1, (q.2.2.2.1 t).2.2.1, (q.2.2.2.1 t).2.2.2.1, (q.2.2.2.1 t).2.2.2.2.1, (q.2.2.2.1 t).2.2.2.2.2.1, 1), q.2.2.2.2) fi le h h1) := by
  refine enX8_close (Nat.le_of_ble_eq_true rfl) ?_
  refine mi_blk okX8_close 2 (pc' := 2) (lv' := [(0, .ref B), (1, .int (nI t))]) (st' := [.int (nI t), .ref B]) rfl ?_
  refine mi_callV okX8_close (mc := 0) (ms := 0) (mc' := 0) (ms' := 0) (b := B) (As := [.int (nI t)]) (st := []) rfl cv_RX8_91 rfl (by decide) (show 6 ≤ _ by have := hw.z; omega) (show _ < h.1 by have := hw.z; omega) hw.ph rfl (Nat.le_of_ble_eq_true rfl) (c_trackAt hw ht htc) (fun r h1 q => ?_)
  obtain ⟨rfl, e9⟩ := q; have e9 := e9.symm; subst e9
  change mi_W pP X kX8_close 1 0 0 5 [(0, .ref B), (1, .int (nI t))] [.ref (B + 510 + t)] h _
  refine mi_blk okX8_close 2 (pc' := 7) (lv' := [(2, .ref (B + 510 + t)), (0, .ref B), (1, .int (nI t))]) (st' := [.ref (B + 510 + t)]) rfl ?_
  refine mi_getf okX8_close rfl fg_RX8_120 (show 6 ≤ _ by have := hw.z; omega) (show _ < h.1 by have := hw.z; omega) (hw.tr t ht) (v := .int ((q.2.2.2.1 t).2.2.2.2.2.2)) rfl ?_
  refine mi_if_eq okX8_close rfl rfl (fun c_10 => ?_) (fun c_10 => absurd hcl c_10)
  refine mi_blk okX8_close 2 (pc' := 25) (lv' := [(2, .ref (B + 510 + t)), (0, .ref B), (1, .int (nI t))]) (st' := [.int 1, .ref (B + 510 + t)]) rfl ?_
  refine mi_putf' okX8_close rfl fd_RX8_120 (show 6 ≤ _ by have := hw.z; omega) (show _ < h.1 by have := hw.z; omega) (hw.tr t ht) (fs' := [.int ((q.2.2.2.1 t).1), .int ((q.2.2.2.1 t).2.1), .int ((q.2.2.2.1 t).2.2.1), .int ((q.2.2.2.1 t).2.2.2.1), .int ((q.2.2.2.1 t).2.2.2.2.1), .int ((q.2.2.2.1 t).2.2.2.2.2.1), .int 1]) rfl (Nat.le_of_ble_eq_true rfl) rfl rfl ?_
  refine mi_blk okX8_close 2 (pc' := 30) (lv' := [(2, .ref (B + 510 + t)), (0, .ref B), (1, .int (nI t))]) (st' := [.ref B, .int (nI t)]) rfl ?_
  refine mi_getf okX8_close rfl fg_RX8_46 (show 6 ≤ _ by have := hw.z; omega) (show _ < h.1 by have := hw.z; omega) ((mi_set_ne (by omega)).trans hw.ph) (v := .int q.1.2.1) rfl ?_
  refine mi_blk okX8_close 2 (pc' := 35) (lv' := [(2, .ref (B + 510 + t)), (0, .ref B), (1, .int (nI t))]) (st' := [.int (q.1.2.1 - 1), .int (nI t)]) rfl ?_
  refine mi_ic_eq okX8_close rfl rfl (fun c_35 => absurd c_35 hl) (fun c_35 => ?_)
  refine mi_blk okX8_close 1 (pc' := 39) (lv' := [(2, .ref (B + 510 + t)), (0, .ref B), (1, .int (nI t))]) (st' := [.int 0]) rfl ?_
  exact mi_ret_i okX8_close rfl rfl rfl ⟨rfl, (ph_X.rf hw).set_tr ht ((q.2.2.2.1 t).1, (q.2.2.2.1 t).2.1, (q.2.2.2.1 t).2.2.1, (q.2.2.2.1 t).2.2.2.1, (q.2.2.2.1 t).2.2.2.2.1, (q.2.2.2.1 t).2.2.2.2.2.1, 1)⟩
set_option maxHeartbeats 4000000 in
set_option maxRecDepth 100000 in
theorem c_close_1 {X : mi_X} {h : mi_H} {B : Nat} {q : ph_T} {fi le : Nat → Nat → Int32} (hw : ph_W B q fi le h) {t : Nat} (ht : t < 8) (htc : nI t < q.1.2.1) (hcl : (q.2.2.2.1 t).2.2.2.2.2.2 = 0) (hl : nI t = q.1.2.1 - 1) : mi_S pP X kX8_close 1 [.ref B, .int (nI t)] h 0 0 (fun r h1 => r = some (.int ((q.2.2.2.1 t).2.2.2.1 - (q.2.2.2.1 t).2.2.2.2.1)) ∧ ph_X B ((q.1.1, q.1.2.1, (q.2.2.2.1 t).2.2.1 + (q.2.2.2.1 t).2.2.2.2.1, q.1.2.2.2.1, q.1.2.2.2.2), q.2.1, q.2.2.1, va_up q.2.2.2.1 t ((q.2.2.2.1 t).1, (q.2.2.2.1 t).2.1, (q.2.2.2.1 t).2.2.1, (q.2.2.2.1 t).2.2.2.2.1, (q.2.2.2.1 t).2.2.2.2.1, (q.2.2.2.1 t).2.2.2.2.2.1, 1), q.2.2.2.2) fi le h h1) := by
  refine enX8_close (Nat.le_of_ble_eq_true rfl) ?_
  refine mi_blk okX8_close 2 (pc' := 2) (lv' := [(0, .ref B), (1, .int (nI t))]) (st' := [.int (nI t), .ref B]) rfl ?_
  refine mi_callV okX8_close (mc := 0) (ms := 0) (mc' := 0) (ms' := 0) (b := B) (As := [.int (nI t)]) (st := []) rfl cv_RX8_91 rfl (by decide) (show 6 ≤ _ by have := hw.z; omega) (show _ < h.1 by have := hw.z; omega) hw.ph rfl (Nat.le_of_ble_eq_true rfl) (c_trackAt hw ht htc) (fun r h1 q => ?_)
  obtain ⟨rfl, e9⟩ := q; have e9 := e9.symm; subst e9
  change mi_W pP X kX8_close 1 0 0 5 [(0, .ref B), (1, .int (nI t))] [.ref (B + 510 + t)] h _
  refine mi_blk okX8_close 2 (pc' := 7) (lv' := [(2, .ref (B + 510 + t)), (0, .ref B), (1, .int (nI t))]) (st' := [.ref (B + 510 + t)]) rfl ?_
  refine mi_getf okX8_close rfl fg_RX8_120 (show 6 ≤ _ by have := hw.z; omega) (show _ < h.1 by have := hw.z; omega) (hw.tr t ht) (v := .int ((q.2.2.2.1 t).2.2.2.2.2.2)) rfl ?_
  refine mi_if_eq okX8_close rfl rfl (fun c_10 => ?_) (fun c_10 => absurd hcl c_10)
  refine mi_blk okX8_close 2 (pc' := 25) (lv' := [(2, .ref (B + 510 + t)), (0, .ref B), (1, .int (nI t))]) (st' := [.int 1, .ref (B + 510 + t)]) rfl ?_
  refine mi_putf' okX8_close rfl fd_RX8_120 (show 6 ≤ _ by have := hw.z; omega) (show _ < h.1 by have := hw.z; omega) (hw.tr t ht) (fs' := [.int ((q.2.2.2.1 t).1), .int ((q.2.2.2.1 t).2.1), .int ((q.2.2.2.1 t).2.2.1), .int ((q.2.2.2.1 t).2.2.2.1), .int ((q.2.2.2.1 t).2.2.2.2.1), .int ((q.2.2.2.1 t).2.2.2.2.2.1), .int 1]) rfl (Nat.le_of_ble_eq_true rfl) rfl rfl ?_
  refine mi_blk okX8_close 2 (pc' := 30) (lv' := [(2, .ref (B + 510 + t)), (0, .ref B), (1, .int (nI t))]) (st' := [.ref B, .int (nI t)]) rfl ?_
  refine mi_getf okX8_close rfl fg_RX8_46 (show 6 ≤ _ by have := hw.z; omega) (show _ < h.1 by have := hw.z; omega) ((mi_set_ne (by omega)).trans hw.ph) (v := .int q.1.2.1) rfl ?_
  refine mi_blk okX8_close 2 (pc' := 35) (lv' := [(2, .ref (B + 510 + t)), (0, .ref B), (1, .int (nI t))]) (st' := [.int (q.1.2.1 - 1), .int (nI t)]) rfl ?_
  refine mi_ic_eq okX8_close rfl rfl (fun c_35 => ?_) (fun c_35 => absurd hl c_35)
  refine mi_blk okX8_close 1 (pc' := 41) (lv' := [(2, .ref (B + 510 + t)), (0, .ref B), (1, .int (nI t))]) (st' := [.ref (B + 510 + t)]) rfl ?_
  refine mi_callV okX8_close (mc := 0) (ms := 0) (mc' := 0) (ms' := 0) (b := (B + 510 + t)) (As := []) (st := []) rfl cv_RX8_125 rfl (by decide) (show 6 ≤ _ by have := hw.z; omega) (show _ < h.1 by have := hw.z; omega) mi_set_self rfl (Nat.le_of_ble_eq_true rfl) (c_giveBack (q := ((q.2.2.2.1 t).1, (q.2.2.2.1 t).2.1, (q.2.2.2.1 t).2.2.1, (q.2.2.2.1 t).2.2.2.1, (q.2.2.2.1 t).2.2.2.2.1, (q.2.2.2.1 t).2.2.2.2.2.1, 1)) (show 6 ≤ _ by have := hw.z; omega) (show _ < h.1 by have := hw.z; omega) mi_set_self) (fun r h1 q => ?_)
  obtain ⟨rfl, e9⟩ := q; have e9 := e9.symm; subst e9
  change mi_W pP X kX8_close 1 0 0 44 [(2, .ref (B + 510 + t)), (0, .ref B), (1, .int (nI t))] [.int (((q.2.2.2.1 t).2.2.2.1) - ((q.2.2.2.1 t).2.2.2.2.1))] (mi_set (mi_set h (B + 510 + t) (.inr (8, [.int ((q.2.2.2.1 t).1), .int ((q.2.2.2.1 t).2.1), .int ((q.2.2.2.1 t).2.2.1), .int ((q.2.2.2.1 t).2.2.2.1), .int ((q.2.2.2.1 t).2.2.2.2.1), .int ((q.2.2.2.1 t).2.2.2.2.2.1), .int 1]))) (B + 510 + t) (tr_c ((q.2.2.2.1 t).1, (q.2.2.2.1 t).2.1, (q.2.2.2.1 t).2.2.1, (q.2.2.2.1 t).2.2.2.2.1, (q.2.2.2.1 t).2.2.2.2.1, (q.2.2.2.1 t).2.2.2.2.2.1, 1))) _
  rw [mi_set_set]
  refine mi_blk okX8_close 3 (pc' := 47) (lv' := [(3, .int (((q.2.2.2.1 t).2.2.2.1) - ((q.2.2.2.1 t).2.2.2.2.1))), (2, .ref (B + 510 + t)), (0, .ref B), (1, .int (nI t))]) (st' := [.ref (B + 510 + t), .ref B]) rfl ?_
  refine mi_callV okX8_close (mc := 0) (ms := 0) (mc' := 0) (ms' := 0) (b := (B + 510 + t)) (As := []) (st := [.ref B]) rfl cv_RX8_85 rfl (by decide) (show 6 ≤ _ by have := hw.z; omega) (show _ < h.1 by have := hw.z; omega) mi_set_self rfl (Nat.le_of_ble_eq_true rfl) (c_behind (q := ((q.2.2.2.1 t).1, (q.2.2.2.1 t).2.1, (q.2.2.2.1 t).2.2.1, (q.2.2.2.1 t).2.2.2.2.1, (q.2.2.2.1 t).2.2.2.2.1, (q.2.2.2.1 t).2.2.2.2.2.1, 1)) (show 6 ≤ _ by have := hw.z; omega) (show _ < h.1 by have := hw.z; omega) mi_set_self) (fun r h1 q => ?_)
  obtain ⟨rfl, e9⟩ := q; have e9 := e9.symm; subst e9
  change mi_W pP X kX8_close 1 0 0 50 [(3, .int (((q.2.2.2.1 t).2.2.2.1) - ((q.2.2.2.1 t).2.2.2.2.1))), (2, .ref (B + 510 + t)), (0, .ref B), (1, .int (nI t))] [.int (((q.2.2.2.1 t).2.2.1) + ((q.2.2.2.1 t).2.2.2.2.1)), .ref B] (mi_set h (B + 510 + t) (tr_c ((q.2.2.2.1 t).1, (q.2.2.2.1 t).2.1, (q.2.2.2.1 t).2.2.1, (q.2.2.2.1 t).2.2.2.2.1, (q.2.2.2.1 t).2.2.2.2.1, (q.2.2.2.1 t).2.2.2.2.2.1, 1))) _
  refine mi_putf' okX8_close rfl fd_RX8_49 (show 6 ≤ _ by have := hw.z; omega) (show _ < h.1 by have := hw.z; omega) ((mi_set_ne (by omega)).trans hw.ph) (fs' := [.ref (B + 1), .ref (B + 2), .ref (B + 3), .ref (B + 26), .ref (B + 27), .int q.1.1, .int q.1.2.1, .int (((q.2.2.2.1 t).2.2.1) + ((q.2.2.2.1 t).2.2.2.2.1)), .int q.1.2.2.2.1, .int q.1.2.2.2.2]) rfl (Nat.le_of_ble_eq_true rfl) rfl rfl ?_
  refine mi_blk okX8_close 1 (pc' := 54) (lv' := [(3, .int (((q.2.2.2.1 t).2.2.2.1) - ((q.2.2.2.1 t).2.2.2.2.1))), (2, .ref (B + 510 + t)), (0, .ref B), (1, .int (nI t))]) (st' := [.int (((q.2.2.2.1 t).2.2.2.1) - ((q.2.2.2.1 t).2.2.2.2.1))]) rfl ?_
  exact mi_ret_i okX8_close rfl rfl rfl ⟨rfl, ((ph_X.rf hw).set_tr ht ((q.2.2.2.1 t).1, (q.2.2.2.1 t).2.1, (q.2.2.2.1 t).2.2.1, (q.2.2.2.1 t).2.2.2.2.1, (q.2.2.2.1 t).2.2.2.2.1, (q.2.2.2.1 t).2.2.2.2.2.1, 1)).set_ph (q.1.1, q.1.2.1, (q.2.2.2.1 t).2.2.1 + (q.2.2.2.1 t).2.2.2.2.1, q.1.2.2.2.1, q.1.2.2.2.2)⟩
