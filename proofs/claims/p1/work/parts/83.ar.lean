-- a call of both sides
theorem mi_S.imp {P : mi_P} {X : mi_X} {k d : Nat} {avs : List Value} {h : mi_H} {mc ms : Nat} {Q Q' : Option Value → mi_H → Prop} (s : mi_S P X k d avs h mc ms Q) (hq : ∀ r h1, Q r h1 → Q' r h1) : mi_S P X k d avs h mc ms Q' := by
  intro l hls D dA b0 xa p e ha hc hk s0 m args below hf happ hP hK
  obtain ⟨n, o, h1, h2, h3, h4, h5⟩ := s l hls D dA b0 xa p e ha hc hk s0 m args below hf happ hP hK
  obtain ⟨⟨r, g, e1, e2, e3⟩, e4⟩ := h4
  exact ⟨n, o, h1, h2, h3, ⟨⟨r, g, e1, hq _ _ e2, e3⟩, e4⟩, h5⟩
theorem mi_SH.imp {P : mi_P} {X : mi_X} {k d : Nat} {avs : List Value} {h : mi_H} {mc ms : Nat} {Q Q' : Option Value → mi_H → Prop} (s : mi_SH P X k d avs h mc ms Q) (hq : ∀ r h1, Q r h1 → Q' r h1) : mi_SH P X k d avs h mc ms Q' := by
  intro l hls D dA b0 xa p e ha hc hk s0 m args below hf happ hP hK
  obtain ⟨n, o, h1, h2, h3, h4, h5⟩ := s l hls D dA b0 xa p e ha hc hk s0 m args below hf happ hP hK
  obtain ⟨⟨r, g, e1, e2, e3⟩, e4⟩ := h4
  exact ⟨n, o, h1, h2, h3, ⟨⟨r, g, e1, hq _ _ e2, e3⟩, e4⟩, h5⟩
theorem hp.any {B O : Nat} {h h1 : mi_H} {c c' : mi_C} {code : Int32} (a : hp B h O c code h1) (hn : ¬ code = 0) : hp B h O c' code h1 := ⟨a.1, a.2.1, fun e => absurd e hn⟩
theorem i_ge {x : Int32} {n : Nat} (hn : n < 2147483647) (h : nI n < x) : nI (n + 1) ≤ x := by
  rw [Int32.lt_iff_toInt_lt, nI_toInt (by omega)] at h
  rw [Int32.le_iff_toInt_le, nI_toInt (by omega)]
  omega
theorem i_lt0 {x : Int32} (h : x < 0) : x.toInt < 0 := by
  rw [Int32.lt_iff_toInt_lt, show (0 : Int32).toInt = 0 by decide] at h
  exact h
theorem i_gtT {x : Int32} {n : Nat} (hn : n < 2147483647) (h : nI (n + 1) ≤ x) : (n : Int) < x.toInt := by
  rw [Int32.le_iff_toInt_le, nI_toInt (by omega)] at h
  omega
theorem okc0 {k : Nat} (hk : k < 240) : dr_okc FP.dconst0 0 k := (ck_cb ck_0 (by decide) hk (by omega)).1
/-- the class answers v, or throws what its number code tells, and the reference likewise -/
def aI (X : mi_X) (kc dr kr B O : Nat) (h : mi_H) (g : Nat → Int64) (As : List Value) (mc ms : Nat) : Prop := ∃ (code : Int32) (v : Int32), mi_SH pP X kc 8 (.ref B :: (As ++ [.ref O])) h 1 6 (fun r h1 => r = some (.int code) ∧ hp B h O (oL (va_up g 0 v.toInt64)) code h1) ∧ ∀ (M : Nat) (h' : mi_H), mo_W M h' → h'.2 M = mo_c M 0 mo_0 → mi_S pP X kr dr (.ref M :: As) h' mc ms (fun r h1 => r = some (.int v) ∧ mp M h' code h1)
theorem aI.ret {X : mi_X} {kc dr kr B O : Nat} {h : mi_H} {g : Nat → Int64} {As : List Value} {mc ms : Nat} (v : Int32) (s : mi_SH pP X kc 8 (.ref B :: (As ++ [.ref O])) h 1 6 (fun r h1 => r = some (.int 0) ∧ hp B h O (oL (va_up g 0 v.toInt64)) 0 h1)) (t : ∀ (M : Nat) (h' : mi_H), mo_W M h' → h'.2 M = mo_c M 0 mo_0 → mi_S pP X kr dr (.ref M :: As) h' mc ms (fun r h1 => r = some (.int v) ∧ mp M h' 0 h1)) : aI X kc dr kr B O h g As mc ms := ⟨0, v, s, t⟩
theorem aI.thr {X : mi_X} {kc dr kr B O : Nat} {h : mi_H} {g : Nat → Int64} {As : List Value} {mc ms : Nat} (code : Int32) (v : Int32) (hn : ¬ code = 0) (s : mi_SH pP X kc 8 (.ref B :: (As ++ [.ref O])) h 1 6 (fun r h1 => r = some (.int code) ∧ hp B h O (oL g) code h1)) (t : ∀ (M : Nat) (h' : mi_H), mo_W M h' → h'.2 M = mo_c M 0 mo_0 → mi_S pP X kr dr (.ref M :: As) h' mc ms (fun r h1 => r = some (.int v) ∧ mp M h' code h1)) : aI X kc dr kr B O h g As mc ms := ⟨code, v, s.imp (fun r h1 q => ⟨q.1, q.2.any hn⟩), t⟩
/-- the class answers v, or throws what its number code tells, and the reference likewise -/
def aJ (X : mi_X) (kc dr kr B O : Nat) (h : mi_H) (g : Nat → Int64) (As : List Value) (mc ms : Nat) : Prop := ∃ (code : Int32) (v : Int64), mi_SH pP X kc 8 (.ref B :: (As ++ [.ref O])) h 1 6 (fun r h1 => r = some (.int code) ∧ hp B h O (oL (va_up g 0 v)) code h1) ∧ ∀ (M : Nat) (h' : mi_H), mo_W M h' → h'.2 M = mo_c M 0 mo_0 → mi_S pP X kr dr (.ref M :: As) h' mc ms (fun r h1 => r = some (.long v) ∧ mp M h' code h1)
theorem aJ.ret {X : mi_X} {kc dr kr B O : Nat} {h : mi_H} {g : Nat → Int64} {As : List Value} {mc ms : Nat} (v : Int64) (s : mi_SH pP X kc 8 (.ref B :: (As ++ [.ref O])) h 1 6 (fun r h1 => r = some (.int 0) ∧ hp B h O (oL (va_up g 0 v)) 0 h1)) (t : ∀ (M : Nat) (h' : mi_H), mo_W M h' → h'.2 M = mo_c M 0 mo_0 → mi_S pP X kr dr (.ref M :: As) h' mc ms (fun r h1 => r = some (.long v) ∧ mp M h' 0 h1)) : aJ X kc dr kr B O h g As mc ms := ⟨0, v, s, t⟩
theorem aJ.thr {X : mi_X} {kc dr kr B O : Nat} {h : mi_H} {g : Nat → Int64} {As : List Value} {mc ms : Nat} (code : Int32) (v : Int64) (hn : ¬ code = 0) (s : mi_SH pP X kc 8 (.ref B :: (As ++ [.ref O])) h 1 6 (fun r h1 => r = some (.int code) ∧ hp B h O (oL g) code h1)) (t : ∀ (M : Nat) (h' : mi_H), mo_W M h' → h'.2 M = mo_c M 0 mo_0 → mi_S pP X kr dr (.ref M :: As) h' mc ms (fun r h1 => r = some (.long v) ∧ mp M h' code h1)) : aJ X kc dr kr B O h g As mc ms := ⟨code, v, s.imp (fun r h1 q => ⟨q.1, q.2.any hn⟩), t⟩
/-- the class answers v, or throws what its number code tells, and the reference likewise -/
def aD (X : mi_X) (kc dr kr B O : Nat) (h : mi_H) (g : Nat → UInt64) (As : List Value) (mc ms : Nat) : Prop := ∃ (code : Int32) (v : UInt64), mi_SH pP X kc 8 (.ref B :: (As ++ [.ref O])) h 1 6 (fun r h1 => r = some (.int code) ∧ hp B h O (oD (va_up g 0 v)) code h1) ∧ ∀ (M : Nat) (h' : mi_H), mo_W M h' → h'.2 M = mo_c M 0 mo_0 → mi_S pP X kr dr (.ref M :: As) h' mc ms (fun r h1 => r = some (.double v) ∧ mp M h' code h1)
theorem aD.ret {X : mi_X} {kc dr kr B O : Nat} {h : mi_H} {g : Nat → UInt64} {As : List Value} {mc ms : Nat} (v : UInt64) (s : mi_SH pP X kc 8 (.ref B :: (As ++ [.ref O])) h 1 6 (fun r h1 => r = some (.int 0) ∧ hp B h O (oD (va_up g 0 v)) 0 h1)) (t : ∀ (M : Nat) (h' : mi_H), mo_W M h' → h'.2 M = mo_c M 0 mo_0 → mi_S pP X kr dr (.ref M :: As) h' mc ms (fun r h1 => r = some (.double v) ∧ mp M h' 0 h1)) : aD X kc dr kr B O h g As mc ms := ⟨0, v, s, t⟩
theorem aD.thr {X : mi_X} {kc dr kr B O : Nat} {h : mi_H} {g : Nat → UInt64} {As : List Value} {mc ms : Nat} (code : Int32) (v : UInt64) (hn : ¬ code = 0) (s : mi_SH pP X kc 8 (.ref B :: (As ++ [.ref O])) h 1 6 (fun r h1 => r = some (.int code) ∧ hp B h O (oD g) code h1)) (t : ∀ (M : Nat) (h' : mi_H), mo_W M h' → h'.2 M = mo_c M 0 mo_0 → mi_S pP X kr dr (.ref M :: As) h' mc ms (fun r h1 => r = some (.double v) ∧ mp M h' code h1)) : aD X kc dr kr B O h g As mc ms := ⟨code, v, s.imp (fun r h1 q => ⟨q.1, q.2.any hn⟩), t⟩
set_option maxHeartbeats 4000000 in
set_option maxRecDepth 100000 in
theorem m_read_s4 {X : mi_X} {h : mi_H} {M : Nat} (hw : mo_W M h) (hc : h.2 M = mo_c M 0 mo_0) {x : Int32} (hx : x < 0 ∨ nI 240 ≤ x) : mi_S pP X kX9_read 4 [.ref M, .int x] h 0 0 (fun r h1 => r = some (.int 0) ∧ mp M h 1 h1) := by
  refine enX9_read (Nat.le_of_ble_eq_true rfl) ?_
  refine mi_blk okX9_read 2 (pc' := 2) (lv' := [(0, .ref M), (1, .int x)]) (st' := [.int x, .ref M]) rfl ?_
  refine mi_callS okX9_read (mc := 0) (ms := 0) (mc' := 0) (ms' := 0) (As := [.int x]) (st := [.ref M]) rfl cs_RX9_166 rfl (by decide) (Nat.le_of_ble_eq_true rfl) (m_isNoSector_1 hx) (fun r h1 q => ?_)
  obtain ⟨rfl, e9⟩ := q; have e9 := e9.symm; subst e9
  change mi_WX _ pP X kX9_read 4 0 0 5 [(0, .ref M), (1, .int x)] [.int 1, .ref M] h _
  refine mi_blk okX9_read 1 (pc' := 6) (lv' := [(0, .ref M), (1, .int x)]) (st' := [.int 1, .int 1, .ref M]) rfl ?_
  refine mi_callV okX9_read (mc := 0) (ms := 0) (mc' := 0) (ms' := 0) (b := M) (As := [.int 1, .int 1]) (st := []) rfl cv_RX9_130 rfl (by decide) (show 6 ≤ _ by have := hw.1; omega) (show _ < h.1 by have := hw.1; omega) hc rfl (Nat.le_of_ble_eq_true rfl) (m_start_1 (h := h) (u := (0, 0, 0, 4, 0, 0, 0, 0, 0)) (show 6 ≤ _ by have := hw.1; omega) (show _ < h.1 by have := hw.1; omega) hc (by decide)) (fun r h1 q => ?_)
  obtain ⟨rfl, e9⟩ := q; subst e9
  change mi_WX _ pP X kX9_read 4 0 0 9 [(0, .ref M), (1, .int x)] [.int 1] (mi_set h M (.inr (9, [.int 1, .ref (M + 1), .ref (M + 2), .ref (M + 3), .ref (M + 4), .int 0, .int 0, .int 0, .int 4, .ref (M + 5), .int 0, .double 0, .int 0, .int 0, .int 0]))) _
  refine mi_if_ne okX9_read rfl rfl (fun c_9 => ?_) (fun c_9 => absurd c_9 (by decide))
  refine mi_blk okX9_read 1 (pc' := 25) (lv' := [(0, .ref M), (1, .int x)]) (st' := [.int 0]) rfl ?_
  exact mi_ret_i okX9_read rfl rfl rfl ⟨rfl, mp.set (0, 0, 0, 4, 0, 0, 0, 0, 0)⟩
set_option maxHeartbeats 4000000 in
set_option maxRecDepth 100000 in
theorem m_ofSector_s4 {X : mi_X} {h : mi_H} {M : Nat} (hw : mo_W M h) (hc : h.2 M = mo_c M 0 mo_0) {x : Int32} (hx : x < 0 ∨ nI 240 ≤ x) {y : Int32} : mi_S pP X kX9_ofSector 4 [.ref M, .int x, .int y] h 2 14 (fun r h1 => r = some (.int 0) ∧ mp M h 1 h1) := by
  refine enX9_ofSector (Nat.le_of_ble_eq_true rfl) ?_
  refine mi_blk okX9_ofSector 2 (pc' := 2) (lv' := [(0, .ref M), (1, .int x), (2, .int y)]) (st' := [.int x, .ref M]) rfl ?_
  refine mi_callS okX9_ofSector (mc := 2) (ms := 14) (mc' := 0) (ms' := 0) (As := [.int x]) (st := [.ref M]) rfl cs_RX9_166 rfl (by decide) (Nat.le_of_ble_eq_true rfl) (m_isNoSector_1 hx) (fun r h1 q => ?_)
  obtain ⟨rfl, e9⟩ := q; have e9 := e9.symm; subst e9
  change mi_WX _ pP X kX9_ofSector 4 2 14 5 [(0, .ref M), (1, .int x), (2, .int y)] [.int 1, .ref M] h _
  refine mi_blk okX9_ofSector 1 (pc' := 6) (lv' := [(0, .ref M), (1, .int x), (2, .int y)]) (st' := [.int 1, .int 1, .ref M]) rfl ?_
  refine mi_callV okX9_ofSector (mc := 2) (ms := 14) (mc' := 0) (ms' := 0) (b := M) (As := [.int 1, .int 1]) (st := []) rfl cv_RX9_130 rfl (by decide) (show 6 ≤ _ by have := hw.1; omega) (show _ < h.1 by have := hw.1; omega) hc rfl (Nat.le_of_ble_eq_true rfl) (m_start_1 (h := h) (u := (0, 0, 0, 4, 0, 0, 0, 0, 0)) (show 6 ≤ _ by have := hw.1; omega) (show _ < h.1 by have := hw.1; omega) hc (by decide)) (fun r h1 q => ?_)
  obtain ⟨rfl, e9⟩ := q; subst e9
  change mi_WX _ pP X kX9_ofSector 4 2 14 9 [(0, .ref M), (1, .int x), (2, .int y)] [.int 1] (mi_set h M (.inr (9, [.int 1, .ref (M + 1), .ref (M + 2), .ref (M + 3), .ref (M + 4), .int 0, .int 0, .int 0, .int 4, .ref (M + 5), .int 0, .double 0, .int 0, .int 0, .int 0]))) _
  refine mi_if_ne okX9_ofSector rfl rfl (fun c_9 => ?_) (fun c_9 => absurd c_9 (by decide))
  refine mi_blk okX9_ofSector 2 (pc' := 45) (lv' := [(0, .ref M), (1, .int x), (2, .int y)]) (st' := [.int 0]) rfl ?_
  exact mi_ret_i okX9_ofSector rfl rfl rfl ⟨rfl, mp.set (0, 0, 0, 4, 0, 0, 0, 0, 0)⟩
set_option maxHeartbeats 4000000 in
set_option maxRecDepth 100000 in
theorem m_ofSector_w4 {X : mi_X} {h : mi_H} {M : Nat} (hw : mo_W M h) (hc : h.2 M = mo_c M 0 mo_0) {k : Nat} (hk : k < 240) {y : Int32} (hy : y < 0 ∨ 8 < y) : mi_S pP X kX9_ofSector 4 [.ref M, .int (nI k), .int y] h 2 14 (fun r h1 => r = some (.int 0) ∧ mp M h 2 h1) := by
  refine enX9_ofSector (Nat.le_of_ble_eq_true rfl) ?_
  refine mi_blk okX9_ofSector 2 (pc' := 2) (lv' := [(0, .ref M), (1, .int (nI k)), (2, .int y)]) (st' := [.int (nI k), .ref M]) rfl ?_
  refine mi_callS okX9_ofSector (mc := 2) (ms := 14) (mc' := 0) (ms' := 0) (As := [.int (nI k)]) (st := [.ref M]) rfl cs_RX9_166 rfl (by decide) (Nat.le_of_ble_eq_true rfl) (m_isNoSector_0 hk) (fun r h1 q => ?_)
  obtain ⟨rfl, e9⟩ := q; have e9 := e9.symm; subst e9
  change mi_WX _ pP X kX9_ofSector 4 2 14 5 [(0, .ref M), (1, .int (nI k)), (2, .int y)] [.int 0, .ref M] h _
  refine mi_blk okX9_ofSector 1 (pc' := 6) (lv' := [(0, .ref M), (1, .int (nI k)), (2, .int y)]) (st' := [.int 1, .int 0, .ref M]) rfl ?_
  refine mi_callV okX9_ofSector (mc := 2) (ms := 14) (mc' := 0) (ms' := 0) (b := M) (As := [.int 0, .int 1]) (st := []) rfl cv_RX9_130 rfl (by decide) (show 6 ≤ _ by have := hw.1; omega) (show _ < h.1 by have := hw.1; omega) hc rfl (Nat.le_of_ble_eq_true rfl) (m_start_0 (h := h) (u := (0, 0, 0, 4, 0, 0, 0, 0, 0)) (show 6 ≤ _ by have := hw.1; omega) (show _ < h.1 by have := hw.1; omega) hc) (fun r h1 q => ?_)
  obtain ⟨rfl, e9⟩ := q; subst e9
  change mi_WX _ pP X kX9_ofSector 4 2 14 9 [(0, .ref M), (1, .int (nI k)), (2, .int y)] [.int 0] (mi_set h M (.inr (9, [.int 0, .ref (M + 1), .ref (M + 2), .ref (M + 3), .ref (M + 4), .int 0, .int 0, .int 0, .int 4, .ref (M + 5), .int 0, .double 0, .int 0, .int 0, .int 0]))) _
  refine mi_if_ne okX9_ofSector rfl rfl (fun c_9 => absurd (by decide) c_9) (fun c_9 => ?_)
  refine mi_blk okX9_ofSector 4 (pc' := 17) (lv' := [(0, .ref M), (1, .int (nI k)), (2, .int y)]) (st' := [.int 8, .int 0, .int y, .ref M]) rfl ?_
  refine mi_callS okX9_ofSector (mc := 2) (ms := 14) (mc' := 0) (ms' := 0) (As := [.int y, .int 0, .int 8]) (st := [.ref M]) rfl cs_RX9_46 rfl (by decide) (Nat.le_of_ble_eq_true rfl) (m_isIn_0 hy) (fun r h1 q => ?_)
  obtain ⟨rfl, e9⟩ := q; have e9 := e9.symm; subst e9
  change mi_WX _ pP X kX9_ofSector 4 2 14 20 [(0, .ref M), (1, .int (nI k)), (2, .int y)] [.int 0, .ref M] (mi_set h M (.inr (9, [.int 0, .ref (M + 1), .ref (M + 2), .ref (M + 3), .ref (M + 4), .int 0, .int 0, .int 0, .int 4, .ref (M + 5), .int 0, .double 0, .int 0, .int 0, .int 0]))) _
  refine mi_if_ne okX9_ofSector rfl rfl (fun c_20 => absurd (by decide) c_20) (fun c_20 => ?_)
  refine mi_blk okX9_ofSector 3 (pc' := 29) (lv' := [(0, .ref M), (1, .int (nI k)), (2, .int y)]) (st' := [.int 2, .int 1, .ref M]) rfl ?_
  refine mi_callV okX9_ofSector (mc := 2) (ms := 14) (mc' := 0) (ms' := 0) (b := M) (As := [.int 1, .int 2]) (st := []) rfl cv_RX9_38 rfl (by decide) (show 6 ≤ _ by have := hw.1; omega) (show _ < h.1 by have := hw.1; omega) mi_set_self rfl (Nat.le_of_ble_eq_true rfl) (m_refuse_1 (h := (mi_set h M (.inr (9, [.int 0, .ref (M + 1), .ref (M + 2), .ref (M + 3), .ref (M + 4), .int 0, .int 0, .int 0, .int 4, .ref (M + 5), .int 0, .double 0, .int 0, .int 0, .int 0])))) (u := (0, 0, 0, 4, 0, 0, 0, 0, 0)) (show 6 ≤ _ by have := hw.1; omega) (show _ < h.1 by have := hw.1; omega) mi_set_self (by decide)) (fun r h1 q => ?_)
  obtain ⟨rfl, e9⟩ := q; rw [mi_set_set] at e9; subst e9
  change mi_WX _ pP X kX9_ofSector 4 2 14 32 [(0, .ref M), (1, .int (nI k)), (2, .int y)] [.int 1] (mi_set h M (.inr (9, [.int 2, .ref (M + 1), .ref (M + 2), .ref (M + 3), .ref (M + 4), .int 0, .int 0, .int 0, .int 4, .ref (M + 5), .int 0, .double 0, .int 0, .int 0, .int 0]))) _
  refine mi_if_eq okX9_ofSector rfl rfl (fun c_32 => absurd c_32 (by decide)) (fun c_32 => ?_)
  refine mi_blk okX9_ofSector 2 (pc' := 45) (lv' := [(0, .ref M), (1, .int (nI k)), (2, .int y)]) (st' := [.int 0]) rfl ?_
  exact mi_ret_i okX9_ofSector rfl rfl rfl ⟨rfl, mp.set (0, 0, 0, 4, 0, 0, 0, 0, 0)⟩
set_option maxHeartbeats 4000000 in
set_option maxRecDepth 100000 in
theorem m_many_w4 {X : mi_X} {h : mi_H} {M : Nat} (hw : mo_W M h) (hc : h.2 M = mo_c M 0 mo_0) {x : Int32} (hx : x < 0 ∨ 12 < x) : mi_S pP X kX9_many 4 [.ref M, .int x] h 2 16 (fun r h1 => r = some (.int 0) ∧ mp M h 1 h1) := by
  refine enX9_many (Nat.le_of_ble_eq_true rfl) ?_
  refine mi_blk okX9_many 4 (pc' := 5) (lv' := [(0, .ref M), (1, .int x)]) (st' := [.int 12, .int 0, .int x, .ref M]) rfl ?_
  refine mi_callS okX9_many (mc := 2) (ms := 16) (mc' := 0) (ms' := 0) (As := [.int x, .int 0, .int 12]) (st := [.ref M]) rfl cs_RX9_46 rfl (by decide) (Nat.le_of_ble_eq_true rfl) (m_isIn_0 hx) (fun r h1 q => ?_)
  obtain ⟨rfl, e9⟩ := q; have e9 := e9.symm; subst e9
  change mi_WX _ pP X kX9_many 4 2 16 8 [(0, .ref M), (1, .int x)] [.int 0, .ref M] h _
  refine mi_if_ne okX9_many rfl rfl (fun c_8 => absurd (by decide) c_8) (fun c_8 => ?_)
  refine mi_blk okX9_many 3 (pc' := 17) (lv' := [(0, .ref M), (1, .int x)]) (st' := [.int 1, .int 1, .ref M]) rfl ?_
  refine mi_callV okX9_many (mc := 2) (ms := 16) (mc' := 0) (ms' := 0) (b := M) (As := [.int 1, .int 1]) (st := []) rfl cv_RX9_130 rfl (by decide) (show 6 ≤ _ by have := hw.1; omega) (show _ < h.1 by have := hw.1; omega) hc rfl (Nat.le_of_ble_eq_true rfl) (m_start_1 (h := h) (u := (0, 0, 0, 4, 0, 0, 0, 0, 0)) (show 6 ≤ _ by have := hw.1; omega) (show _ < h.1 by have := hw.1; omega) hc (by decide)) (fun r h1 q => ?_)
  obtain ⟨rfl, e9⟩ := q; subst e9
  change mi_WX _ pP X kX9_many 4 2 16 20 [(0, .ref M), (1, .int x)] [.int 1] (mi_set h M (.inr (9, [.int 1, .ref (M + 1), .ref (M + 2), .ref (M + 3), .ref (M + 4), .int 0, .int 0, .int 0, .int 4, .ref (M + 5), .int 0, .double 0, .int 0, .int 0, .int 0]))) _
  refine mi_if_eq okX9_many rfl rfl (fun c_20 => absurd c_20 (by decide)) (fun c_20 => ?_)
  refine mi_blk okX9_many 2 (pc' := 32) (lv' := [(0, .ref M), (1, .int x)]) (st' := [.int 0]) rfl ?_
  exact mi_ret_i okX9_many rfl rfl rfl ⟨rfl, mp.set (0, 0, 0, 4, 0, 0, 0, 0, 0)⟩
set_option maxRecDepth 100000 in
theorem a_session {X : mi_X} (hX1 : mi_X1 X) (hX : mi_X23 X) {h : mi_H} {B : Nat} (hw : ph_W B ph_0 (fun _ _ => 0) (fun _ _ => 0) h) {O : Nat} (hO : B + 518 ≤ O ∧ O < h.1) {g : Nat → Int64} (hOc : h.2 O = oL g) : aI X kL_session 2 kX9_session B O h g [] 0 0 := by
  exact aI.ret 0 (e_session hw hO hOc) (fun M9 h9 w9 c9 => m_session w9 c9)
set_option maxRecDepth 100000 in
theorem a_track {X : mi_X} (hX1 : mi_X1 X) (hX : mi_X23 X) {h : mi_H} {B : Nat} (hw : ph_W B ph_0 (fun _ _ => 0) (fun _ _ => 0) h) {O : Nat} (hO : B + 518 ≤ O ∧ O < h.1) {g : Nat → Int64} (hOc : h.2 O = oL g) (x : Int32) (y : Int32) : aI X kL_track 2 kX9_track B O h g [.int x, .int y] 0 0 := by
  rcases pk_ix x (n := 2) (by decide) with c | c | ⟨j, hj, rfl⟩
  · exact aI.thr 1 0 (by decide) (e_track_a hw hO hOc (Or.inl ⟨fun e => absurd c (by rw [e]; decide), fun e => absurd c (by rw [e]; decide)⟩)) (fun M9 h9 w9 c9 => m_track_a w9 c9 (Or.inl c))
  · exact aI.thr 1 0 (by decide) (e_track_a hw hO hOc (Or.inl ⟨fun e => absurd c (by rw [e]; decide), fun e => absurd c (by rw [e]; decide)⟩)) (fun M9 h9 w9 c9 => m_track_a w9 c9 (Or.inr (i_gt (n := 1) (by decide) c)))
  · have n0 : ¬ nI j < 0 := nI_pos (by omega)
    have n1 : ¬ 1 < nI j := nI_nlt (a := 1) (b := j) (by omega) (by omega)
    have n2 : nI j = 0 ∨ nI j = 1 := by
      rcases (show j = 0 ∨ j = 1 by omega) with e | e
      · exact Or.inl (by rw [e]; rfl)
      · exact Or.inr (by rw [e]; rfl)
    by_cases c1 : y < 1 ∨ 40 < y
    · exact aI.thr 1 0 (by decide) (e_track_a hw hO hOc (Or.inr c1)) (fun M9 h9 w9 c9 => m_track_b w9 c9 n0 n1 c1)
    · have d1 : ¬ y < 1 := fun e => c1 (Or.inl e)
      have d2 : ¬ 40 < y := fun e => c1 (Or.inr e)
      exact aI.thr 2 0 (by decide) (e_track_s hw hO hOc n2 d1 (Int32.not_lt.mp d2)) (fun M9 h9 w9 c9 => m_track_s w9 c9 n0 n1 d1 d2)
set_option maxRecDepth 100000 in
theorem a_write {X : mi_X} (hX1 : mi_X1 X) (hX : mi_X23 X) {h : mi_H} {B : Nat} (hw : ph_W B ph_0 (fun _ _ => 0) (fun _ _ => 0) h) {O : Nat} (hO : B + 518 ≤ O ∧ O < h.1) {g : Nat → Int64} (hOc : h.2 O = oL g) (x : Int32) (n : Int64) : aI X kL_write 2 kX9_write B O h g [.int x, .long n] 0 0 := by
  exact aI.thr 1 0 (by decide) (e_write hw hO hOc) (fun M9 h9 w9 c9 => m_write w9 c9)
set_option maxRecDepth 100000 in
theorem a_starve {X : mi_X} (hX1 : mi_X1 X) (hX : mi_X23 X) {h : mi_H} {B : Nat} (hw : ph_W B ph_0 (fun _ _ => 0) (fun _ _ => 0) h) {O : Nat} (hO : B + 518 ≤ O ∧ O < h.1) {g : Nat → Int64} (hOc : h.2 O = oL g) (x : Int32) : aI X kL_starve 2 kX9_starve B O h g [.int x] 0 0 := by
  exact aI.thr 1 0 (by decide) (e_starve hw hO hOc) (fun M9 h9 w9 c9 => m_starve w9 c9)
set_option maxRecDepth 100000 in
theorem a_close {X : mi_X} (hX1 : mi_X1 X) (hX : mi_X23 X) {h : mi_H} {B : Nat} (hw : ph_W B ph_0 (fun _ _ => 0) (fun _ _ => 0) h) {O : Nat} (hO : B + 518 ≤ O ∧ O < h.1) {g : Nat → Int64} (hOc : h.2 O = oL g) (x : Int32) : aI X kL_close 2 kX9_close B O h g [.int x] 0 0 := by
  exact aI.thr 1 0 (by decide) (e_close hw hO hOc) (fun M9 h9 w9 c9 => m_close w9 c9)
set_option maxRecDepth 100000 in
theorem a_end {X : mi_X} (hX1 : mi_X1 X) (hX : mi_X23 X) {h : mi_H} {B : Nat} (hw : ph_W B ph_0 (fun _ _ => 0) (fun _ _ => 0) h) {O : Nat} (hO : B + 518 ≤ O ∧ O < h.1) {g : Nat → Int64} (hOc : h.2 O = oL g) : aI X kL_end 3 kX9_end B O h g [] 1 4 := by
  exact aI.thr 1 0 (by decide) (e_end hw hO hOc) (fun M9 h9 w9 c9 => m_end w9 c9)
set_option maxRecDepth 100000 in
theorem a_file {X : mi_X} (hX1 : mi_X1 X) (hX : mi_X23 X) {h : mi_H} {B : Nat} (hw : ph_W B ph_0 (fun _ _ => 0) (fun _ _ => 0) h) {O : Nat} (hO : B + 518 ≤ O ∧ O < h.1) {g : Nat → Int64} (hOc : h.2 O = oL g) (x : Int32) (y : Int32) (z : Int32) : aI X kL_file 2 kX9_file B O h g [.int x, .int y, .int z] 0 0 := by
  rcases pk_ix x (n := 10) (by decide) with c | c | ⟨i, hi, rfl⟩
  · exact aI.thr 1 0 (by decide) (e_file_f hw hO hOc (Or.inl c)) (fun M9 h9 w9 c9 => m_file_f w9 c9 (Or.inl c))
  · exact aI.thr 1 0 (by decide) (e_file_f hw hO hOc (Or.inr c)) (fun M9 h9 w9 c9 => m_file_f w9 c9 (Or.inr c))
  · skip
    rcases pk_ix y (n := 240) (by decide) with c | c | ⟨k, hk, rfl⟩
    · exact aI.thr 2 0 (by decide) (e_file_n hw hO hOc hi (Or.inl c)) (fun M9 h9 w9 c9 => m_file_n w9 c9 hi (Or.inl c))
    · exact aI.thr 2 0 (by decide) (e_file_n hw hO hOc hi (Or.inr c)) (fun M9 h9 w9 c9 => m_file_n w9 c9 hi (Or.inr c))
    · by_cases c1 : z < 1 ∨ 20 < z
      · exact aI.thr 2 0 (by decide) (e_file_t hw hO hOc hi hk) (fun M9 h9 w9 c9 => m_file_l w9 c9 hi hk c1)
      · have d1 : ¬ z < 1 := fun e => c1 (Or.inl e)
        exact aI.thr 2 0 (by decide) (e_file_t hw hO hOc hi hk) (fun M9 h9 w9 c9 => m_file_o w9 c9 hi hk d1 (fun e => c1 (Or.inr e)) (fun e => d1 (Int32.lt_of_le_of_lt e (by decide))))
set_option maxRecDepth 100000 in
theorem a_scratch {X : mi_X} (hX1 : mi_X1 X) (hX : mi_X23 X) {h : mi_H} {B : Nat} (hw : ph_W B ph_0 (fun _ _ => 0) (fun _ _ => 0) h) {O : Nat} (hO : B + 518 ≤ O ∧ O < h.1) {g : Nat → Int64} (hOc : h.2 O = oL g) (x : Int32) (y : Int32) (z : Int32) (u : Int32) : aI X kL_scratch 2 kX9_scratch B O h g [.int x, .int y, .int z, .int u] 0 0 := by
  by_cases c1 : x < 0
  · exact aI.thr 1 0 (by decide) (e_scratch_t hw hO hOc (Or.inl (Or.inl (Or.inl c1)))) (fun M9 h9 w9 c9 => m_scratch_1 w9 c9 (Or.inl c1))
  by_cases c2 : (30 : Int32) ≤ x
  · exact aI.thr 1 0 (by decide) (e_scratch_t hw hO hOc (Or.inl (Or.inl (Or.inr c2)))) (fun M9 h9 w9 c9 => m_scratch_1 w9 c9 (Or.inr (i_gt (n := 29) (by decide) c2)))
  have n2 : ¬ 29 < x := fun e => c2 (i_ge (n := 29) (by decide) e)
  by_cases c3 : y < x
  · exact aI.thr 1 0 (by decide) (e_scratch_t hw hO hOc (Or.inl (Or.inr c3))) (fun M9 h9 w9 c9 => m_scratch_2 w9 c9 c1 n2 (Or.inl c3))
  by_cases c4 : (30 : Int32) ≤ y
  · exact aI.thr 1 0 (by decide) (e_scratch_t hw hO hOc (Or.inr c4)) (fun M9 h9 w9 c9 => m_scratch_2 w9 c9 c1 n2 (Or.inr (i_gt (n := 29) (by decide) c4)))
  have n4 : ¬ 29 < y := fun e => c4 (i_ge (n := 29) (by decide) e)
  have m4 : y < 30 := Int32.not_le.mp c4
  by_cases c5 : z < 0
  · exact aI.thr 1 0 (by decide) (e_scratch_a hw hO hOc c1 c2 c3 m4 (Or.inl (Or.inl (Or.inl c5)))) (fun M9 h9 w9 c9 => m_scratch_3 w9 c9 c1 n2 c3 n4 (Or.inl c5))
  by_cases c6 : (359 : Int32) < z
  · exact aI.thr 1 0 (by decide) (e_scratch_a hw hO hOc c1 c2 c3 m4 (Or.inl (Or.inl (Or.inr c6)))) (fun M9 h9 w9 c9 => m_scratch_3 w9 c9 c1 n2 c3 n4 (Or.inr c6))
  by_cases c7 : u < z
  · exact aI.thr 1 0 (by decide) (e_scratch_a hw hO hOc c1 c2 c3 m4 (Or.inl (Or.inr c7))) (fun M9 h9 w9 c9 => m_scratch_4 w9 c9 c1 n2 c3 n4 c5 c6 (Or.inl c7))
  by_cases c8 : (359 : Int32) < u
  · exact aI.thr 1 0 (by decide) (e_scratch_a hw hO hOc c1 c2 c3 m4 (Or.inr c8)) (fun M9 h9 w9 c9 => m_scratch_4 w9 c9 c1 n2 c3 n4 c5 c6 (Or.inr c8))
  exact aI.ret 0 (e_scratch hw hO hOc hX c1 c2 c3 m4 c5 c6 c7 (Int32.not_lt.mp c8)) (fun M9 h9 w9 c9 => m_scratch w9 c9 c1 n2 c3 n4 c5 c6 c7 c8)
set_option maxRecDepth 100000 in
theorem a_rot {X : mi_X} (hX1 : mi_X1 X) (hX : mi_X23 X) {h : mi_H} {B : Nat} (hw : ph_W B ph_0 (fun _ _ => 0) (fun _ _ => 0) h) {O : Nat} (hO : B + 518 ≤ O ∧ O < h.1) {g : Nat → Int64} (hOc : h.2 O = oL g) (x : Int32) : aI X kL_rot 2 kX9_rot B O h g [.int x] 0 0 := by
  by_cases c : x < 0 ∨ (999 : Int32) < x
  · exact aI.thr 1 0 (by decide) (e_rot_r hw hO hOc c) (fun M9 h9 w9 c9 => m_rot_r w9 c9 c)
  · exact aI.ret 0 (e_rot hw hO hOc (fun e => c (Or.inl e)) (Int32.not_lt.mp fun e => c (Or.inr e))) (fun M9 h9 w9 c9 => m_rot w9 c9 (fun e => c (Or.inl e)) (fun e => c (Or.inr e)))
set_option maxRecDepth 100000 in
theorem a_read {X : mi_X} (hX1 : mi_X1 X) (hX : mi_X23 X) {h : mi_H} {B : Nat} (hw : ph_W B ph_0 (fun _ _ => 0) (fun _ _ => 0) h) {O : Nat} (hO : B + 518 ≤ O ∧ O < h.1) {g : Nat → Int64} (hOc : h.2 O = oL g) (x : Int32) : aI X kL_read 4 kX9_read B O h g [.int x] 0 0 := by
  rcases pk_ix x (n := 240) (by decide) with c | c | ⟨k, hk, rfl⟩
  · exact aI.thr 1 0 (by decide) (e_read_s hw hO hOc (Or.inl c)) (fun M9 h9 w9 c9 => m_read_s4 w9 c9 (Or.inl c))
  · exact aI.thr 1 0 (by decide) (e_read_s hw hO hOc (Or.inr c)) (fun M9 h9 w9 c9 => m_read_s4 w9 c9 (Or.inr c))
  · exact aI.ret 2 (e_read hw hO hOc hX hk (okc0 hk)) (fun M9 h9 w9 c9 => m_read w9 c9 hk (okc0 hk))
set_option maxRecDepth 100000 in
theorem a_seek {X : mi_X} (hX1 : mi_X1 X) (hX : mi_X23 X) {h : mi_H} {B : Nat} (hw : ph_W B ph_0 (fun _ _ => 0) (fun _ _ => 0) h) {O : Nat} (hO : B + 518 ≤ O ∧ O < h.1) {g : Nat → UInt64} (hOc : h.2 O = oD g) (x : Int32) : aD X kL_seek 2 kX9_seek B O h g [.int x] 0 0 := by
  rcases pk_ix x (n := 240) (by decide) with c | c | ⟨k, hk, rfl⟩
  · exact aD.thr 1 FP.dconst0 (by decide) (e_seek_s hw hO hOc (Or.inl c)) (fun M9 h9 w9 c9 => m_seek_s w9 c9 (Or.inl c))
  · exact aD.thr 1 FP.dconst0 (by decide) (e_seek_s hw hO hOc (Or.inr c)) (fun M9 h9 w9 c9 => m_seek_s w9 c9 (Or.inr c))
  · exact aD.ret _ (e_seek hw hO hOc hX hk) (fun M9 h9 w9 c9 => m_seek w9 c9 hk)
set_option maxRecDepth 100000 in
theorem a_angle {X : mi_X} (hX1 : mi_X1 X) (hX : mi_X23 X) {h : mi_H} {B : Nat} (hw : ph_W B ph_0 (fun _ _ => 0) (fun _ _ => 0) h) {O : Nat} (hO : B + 518 ≤ O ∧ O < h.1) {g : Nat → UInt64} (hOc : h.2 O = oD g) (x : Int32) : aD X kL_angle 2 kX9_angle B O h g [.int x] 0 0 := by
  rcases pk_ix x (n := 240) (by decide) with c | c | ⟨k, hk, rfl⟩
  · exact aD.thr 1 FP.dconst0 (by decide) (e_angle_s hw hO hOc (Or.inl c)) (fun M9 h9 w9 c9 => m_angle_s w9 c9 (Or.inl c))
  · exact aD.thr 1 FP.dconst0 (by decide) (e_angle_s hw hO hOc (Or.inr c)) (fun M9 h9 w9 c9 => m_angle_s w9 c9 (Or.inr c))
  · exact aD.ret _ (e_angle hw hO hOc hX hk) (fun M9 h9 w9 c9 => m_angle w9 c9 hk)
set_option maxRecDepth 100000 in
theorem a_ofSector {X : mi_X} (hX1 : mi_X1 X) (hX : mi_X23 X) {h : mi_H} {B : Nat} (hw : ph_W B ph_0 (fun _ _ => 0) (fun _ _ => 0) h) {O : Nat} (hO : B + 518 ≤ O ∧ O < h.1) {g : Nat → Int64} (hOc : h.2 O = oL g) (x : Int32) (y : Int32) : aI X kL_ofSector 4 kX9_ofSector B O h g [.int x, .int y] 2 14 := by
  rcases pk_ix x (n := 240) (by decide) with c | c | ⟨k, hk, rfl⟩
  · exact aI.thr 1 0 (by decide) (e_ofSector_s hw hO hOc (Or.inl c)) (fun M9 h9 w9 c9 => m_ofSector_s4 w9 c9 (Or.inl c))
  · exact aI.thr 1 0 (by decide) (e_ofSector_s hw hO hOc (Or.inr c)) (fun M9 h9 w9 c9 => m_ofSector_s4 w9 c9 (Or.inr c))
  · skip
    rcases pk_ix y (n := 9) (by decide) with c | c | ⟨j, hj, rfl⟩
    · exact aI.thr 2 0 (by decide) (e_ofSector_w hw hO hOc hk (Or.inl (i_lt0 c))) (fun M9 h9 w9 c9 => m_ofSector_w4 w9 c9 hk (Or.inl c))
    · exact aI.thr 2 0 (by decide) (e_ofSector_w hw hO hOc hk (Or.inr (i_gtT (n := 8) (by decide) c))) (fun M9 h9 w9 c9 => m_ofSector_w4 w9 c9 hk (Or.inr (i_gt (n := 8) (by decide) c)))
    · rcases (show j = 0 ∨ j = 1 ∨ j = 2 ∨ j = 3 ∨ j = 4 ∨ j = 5 ∨ j = 6 ∨ j = 7 ∨ j = 8 by omega) with rfl | rfl | rfl | rfl | rfl | rfl | rfl | rfl | rfl
      · exact aI.ret (-1) (e_ofSector_0 hw hO hOc hX hk) (fun M9 h9 w9 c9 => m_ofSector_0 w9 c9 hk)
      · exact aI.ret 0 (e_ofSector_1 hw hO hOc hX hk) (fun M9 h9 w9 c9 => m_ofSector_1 w9 c9 hk)
      · exact aI.ret (ib_bc 0) (e_ofSector_2 hw hO hOc hX hk) (fun M9 h9 w9 c9 => m_ofSector_2 w9 c9 hk)
      · exact aI.ret 2 (e_ofSector_3 hw hO hOc hX hk) (fun M9 h9 w9 c9 => m_ofSector_3 w9 c9 hk)
      · exact aI.ret 0 (e_ofSector_4 hw hO hOc hX hk) (fun M9 h9 w9 c9 => m_ofSector_4 w9 c9 hk)
      · exact aI.ret 0 (e_ofSector_5 hw hO hOc hX hk) (fun M9 h9 w9 c9 => m_ofSector_5 w9 c9 hk)
      · exact aI.ret 0 (e_ofSector_6 hw hO hOc hX hk) (fun M9 h9 w9 c9 => m_ofSector_6 w9 c9 hk)
      · exact aI.ret (sp_turn (nI k)) (e_ofSector_7 hw hO hOc hX hk) (fun M9 h9 w9 c9 => m_ofSector_7 w9 c9 hk)
      · exact aI.ret (sp_pos (nI k)) (e_ofSector_8 hw hO hOc hX hk) (fun M9 h9 w9 c9 => m_ofSector_8 w9 c9 hk)
set_option maxRecDepth 100000 in
theorem a_nibbles_0 {X : mi_X} (hX1 : mi_X1 X) (hX : mi_X23 X) {h : mi_H} {B : Nat} (hw : ph_W B ph_0 (fun _ _ => 0) (fun _ _ => 0) h) {O : Nat} (hO : B + 518 ≤ O ∧ O < h.1) {g : Nat → Int64} (hOc : h.2 O = oL g) (x : Int32) : aJ X kL_nibbles 2 kX9_nibbles B O h g [.int x, .int 0] 0 0 := by
  rcases pk_ix x (n := 240) (by decide) with c | c | ⟨k, hk, rfl⟩
  · exact aJ.thr 1 0 (by decide) (e_nibbles_s hw hO hOc (Or.inl c)) (fun M9 h9 w9 c9 => m_nibbles_s w9 c9 (Or.inl c))
  · exact aJ.thr 1 0 (by decide) (e_nibbles_s hw hO hOc (Or.inr c)) (fun M9 h9 w9 c9 => m_nibbles_s w9 c9 (Or.inr c))
  · exact aJ.ret (-1) (e_nibbles_0 hw hO hOc hk) (fun M9 h9 w9 c9 => m_nibbles_0 w9 c9 hk)
set_option maxRecDepth 100000 in
theorem a_nibbles_1 {X : mi_X} (hX1 : mi_X1 X) (hX : mi_X23 X) {h : mi_H} {B : Nat} (hw : ph_W B ph_0 (fun _ _ => 0) (fun _ _ => 0) h) {O : Nat} (hO : B + 518 ≤ O ∧ O < h.1) {g : Nat → Int64} (hOc : h.2 O = oL g) (x : Int32) : aJ X kL_nibbles 2 kX9_nibbles B O h g [.int x, .int 1] 0 0 := by
  rcases pk_ix x (n := 240) (by decide) with c | c | ⟨k, hk, rfl⟩
  · exact aJ.thr 1 0 (by decide) (e_nibbles_s hw hO hOc (Or.inl c)) (fun M9 h9 w9 c9 => m_nibbles_s w9 c9 (Or.inl c))
  · exact aJ.thr 1 0 (by decide) (e_nibbles_s hw hO hOc (Or.inr c)) (fun M9 h9 w9 c9 => m_nibbles_s w9 c9 (Or.inr c))
  · exact aJ.ret (-1) (e_nibbles_1 hw hO hOc hk) (fun M9 h9 w9 c9 => m_nibbles_1 w9 c9 hk)
set_option maxRecDepth 100000 in
theorem a_place {X : mi_X} (hX1 : mi_X1 X) (hX : mi_X23 X) {h : mi_H} {B : Nat} (hw : ph_W B ph_0 (fun _ _ => 0) (fun _ _ => 0) h) {O : Nat} (hO : B + 518 ≤ O ∧ O < h.1) {g : Nat → Int64} (hOc : h.2 O = oL g) (x : Int32) (y : Int32) : aI X kL_place 2 kX9_place B O h g [.int x, .int y] 0 0 := by
  rcases pk_ix x (n := 240) (by decide) with c | c | ⟨k, hk, rfl⟩
  · exact aI.thr 1 0 (by decide) (e_place_s hw hO hOc (Or.inl c)) (fun M9 h9 w9 c9 => m_place_s w9 c9 (Or.inl c))
  · exact aI.thr 1 0 (by decide) (e_place_s hw hO hOc (Or.inr c)) (fun M9 h9 w9 c9 => m_place_s w9 c9 (Or.inr c))
  · by_cases c1 : y < 0
    · exact aI.thr 1 0 (by decide) (e_place_p hw hO hOc hk (Or.inl c1)) (fun M9 h9 w9 c9 => m_place_p w9 c9 hk (Or.inl c1))
    by_cases c2 : (16 : Int32) ≤ y
    · exact aI.thr 1 0 (by decide) (e_place_p hw hO hOc hk (Or.inr c2)) (fun M9 h9 w9 c9 => m_place_p w9 c9 hk (Or.inr (i_gt (n := 15) (by decide) c2)))
    exact aI.ret (-1) (e_place hw hO hOc hk c1 (Int32.not_le.mp c2)) (fun M9 h9 w9 c9 => m_place w9 c9 hk c1 (fun e => c2 (i_ge (n := 15) (by decide) e)))
set_option maxRecDepth 100000 in
theorem a_ofTrack {X : mi_X} (hX1 : mi_X1 X) (hX : mi_X23 X) {h : mi_H} {B : Nat} (hw : ph_W B ph_0 (fun _ _ => 0) (fun _ _ => 0) h) {O : Nat} (hO : B + 518 ≤ O ∧ O < h.1) {g : Nat → Int64} (hOc : h.2 O = oL g) (x : Int32) (y : Int32) : aI X kL_ofTrack 2 kX9_ofTrack B O h g [.int x, .int y] 0 0 := by
  exact aI.thr 1 0 (by decide) (e_ofTrack hw hO hOc) (fun M9 h9 w9 c9 => m_ofTrack w9 c9)
set_option maxRecDepth 100000 in
theorem a_ofFile {X : mi_X} (hX1 : mi_X1 X) (hX : mi_X23 X) {h : mi_H} {B : Nat} (hw : ph_W B ph_0 (fun _ _ => 0) (fun _ _ => 0) h) {O : Nat} (hO : B + 518 ≤ O ∧ O < h.1) {g : Nat → Int64} (hOc : h.2 O = oL g) (x : Int32) (y : Int32) (z : Int32) : aI X kL_ofFile 2 kX9_ofFile B O h g [.int x, .int y, .int z] 0 0 := by
  rcases pk_ix x (n := 10) (by decide) with c | c | ⟨i, hi, rfl⟩
  · exact aI.thr 1 0 (by decide) (e_ofFile_f hw hO hOc (Or.inl c)) (fun M9 h9 w9 c9 => m_ofFile_f w9 c9 (Or.inl c))
  · exact aI.thr 1 0 (by decide) (e_ofFile_f hw hO hOc (Or.inr c)) (fun M9 h9 w9 c9 => m_ofFile_f w9 c9 (Or.inr c))
  · exact aI.thr 1 0 (by decide) (e_ofFile_s hw hO hOc hi) (fun M9 h9 w9 c9 => m_ofFile_s w9 c9 hi)
set_option maxRecDepth 100000 in
theorem a_play {X : mi_X} (hX1 : mi_X1 X) (hX : mi_X23 X) {h : mi_H} {B : Nat} (hw : ph_W B ph_0 (fun _ _ => 0) (fun _ _ => 0) h) {O : Nat} (hO : B + 518 ≤ O ∧ O < h.1) {g : Nat → UInt64} (hOc : h.2 O = oD g) (x : Int32) : aD X kL_play 2 kX9_play B O h g [.int x] 0 0 := by
  rcases pk_ix x (n := 240) (by decide) with c | c | ⟨k, hk, rfl⟩
  · exact aD.thr 1 FP.dconst0 (by decide) (e_play_s hw hO hOc (Or.inl c)) (fun M9 h9 w9 c9 => m_play_s w9 c9 (Or.inl c))
  · exact aD.thr 1 FP.dconst0 (by decide) (e_play_s hw hO hOc (Or.inr c)) (fun M9 h9 w9 c9 => m_play_s w9 c9 (Or.inr c))
  · exact aD.thr 2 FP.dconst0 (by decide) (e_play_n hw hO hOc hk) (fun M9 h9 w9 c9 => m_play_n w9 c9 hk)
set_option maxRecDepth 100000 in
theorem a_many {X : mi_X} (hX1 : mi_X1 X) (hX : mi_X23 X) {h : mi_H} {B : Nat} (hw : ph_W B ph_0 (fun _ _ => 0) (fun _ _ => 0) h) {O : Nat} (hO : B + 518 ≤ O ∧ O < h.1) {g : Nat → Int64} (hOc : h.2 O = oL g) (x : Int32) : aI X kL_many 4 kX9_many B O h g [.int x] 2 16 := by
  rcases pk_ix x (n := 13) (by decide) with c | c | ⟨j, hj, rfl⟩
  · exact aI.thr 1 0 (by decide) (e_many_w hw hO hOc (Or.inl (i_lt0 c))) (fun M9 h9 w9 c9 => m_many_w4 w9 c9 (Or.inl c))
  · exact aI.thr 1 0 (by decide) (e_many_w hw hO hOc (Or.inr (i_gtT (n := 12) (by decide) c))) (fun M9 h9 w9 c9 => m_many_w4 w9 c9 (Or.inr (i_gt (n := 12) (by decide) c)))
  · rcases (show j = 0 ∨ j = 1 ∨ j = 2 ∨ j = 3 ∨ j = 4 ∨ j = 5 ∨ j = 6 ∨ j = 7 ∨ j = 8 ∨ j = 9 ∨ j = 10 ∨ j = 11 ∨ j = 12 by omega) with rfl | rfl | rfl | rfl | rfl | rfl | rfl | rfl | rfl | rfl | rfl | rfl | rfl
    · exact aI.ret 0 (e_many_0 hw hO hOc) (fun M9 h9 w9 c9 => m_many_0 w9 c9)
    · exact aI.ret 0 (e_many_1 hw hO hOc) (fun M9 h9 w9 c9 => m_many_1 w9 c9)
    · exact aI.ret 0 (e_many_2 hw hO hOc) (fun M9 h9 w9 c9 => m_many_2 w9 c9)
    · exact aI.ret 4 (e_many_3 hw hO hOc) (fun M9 h9 w9 c9 => m_many_3 w9 c9)
    · exact aI.ret 0 (e_many_4 hw hO hOc) (fun M9 h9 w9 c9 => m_many_4 w9 c9)
    · exact aI.ret 0 (e_many_5 hw hO hOc) (fun M9 h9 w9 c9 => m_many_5 w9 c9)
    · exact aI.ret 0 (e_many_6 hw hO hOc) (fun M9 h9 w9 c9 => m_many_6 w9 c9)
    · exact aI.ret 0 (e_many_7 hw hO hOc) (fun M9 h9 w9 c9 => m_many_7 w9 c9)
    · exact aI.ret 0 (e_many_8 hw hO hOc) (fun M9 h9 w9 c9 => m_many_8 w9 c9)
    · exact aI.ret 0 (e_many_9 hw hO hOc) (fun M9 h9 w9 c9 => m_many_9 w9 c9)
    · exact aI.ret 0 (e_many_10 hw hO hOc) (fun M9 h9 w9 c9 => m_many_10 w9 c9)
    · exact aI.ret 0 (e_many_11 hw hO hOc) (fun M9 h9 w9 c9 => m_many_11 w9 c9)
    · exact aI.ret 0 (e_many_12 hw hO hOc) (fun M9 h9 w9 c9 => m_many_12 w9 c9)
set_option maxRecDepth 100000 in
theorem a_wouldTake {X : mi_X} (hX1 : mi_X1 X) (hX : mi_X23 X) {h : mi_H} {B : Nat} (hw : ph_W B ph_0 (fun _ _ => 0) (fun _ _ => 0) h) {O : Nat} (hO : B + 518 ≤ O ∧ O < h.1) {g : Nat → UInt64} (hOc : h.2 O = oD g) (x : Int32) (y : Int32) : aD X kL_wouldTake 2 kX9_wouldTake B O h g [.int x, .int y] 0 0 := by
  rcases pk_ix x (n := 240) (by decide) with c | c | ⟨k, hk, rfl⟩
  · exact aD.thr 1 FP.dconst0 (by decide) (e_wouldTake_s hw hO hOc (Or.inl c)) (fun M9 h9 w9 c9 => m_wouldTake_s w9 c9 (Or.inl c))
  · exact aD.thr 1 FP.dconst0 (by decide) (e_wouldTake_s hw hO hOc (Or.inr c)) (fun M9 h9 w9 c9 => m_wouldTake_s w9 c9 (Or.inr c))
  · by_cases c1 : y < 1 ∨ (40 : Int32) < y
    · exact aD.thr 2 FP.dconst0 (by decide) (e_wouldTake_n hw hO hOc hk c1) (fun M9 h9 w9 c9 => m_wouldTake_n w9 c9 hk c1)
    have d1 : ¬ y < 1 := fun e => c1 (Or.inl e)
    have d2 : ¬ (40 : Int32) < y := fun e => c1 (Or.inr e)
    rcases pk_ix y (n := 41) (by decide) with c | c | ⟨g9, hg, rfl⟩
    · exact absurd (Int32.lt_trans c (by decide)) d1
    · exact absurd (i_gt (n := 40) (by decide) c) d2
    obtain ⟨m, m1, m2, m3, m4⟩ := fst_min hk (show g9 ≤ 40 by omega)
    have g1 : 1 ≤ g9 := Nat.pos_of_ne_zero fun e => d1 (by rw [e]; decide)
    exact aD.ret _ (e_wouldTake hw hO hOc hX hk g1 (by omega) m1 m2 m4) (fun M9 h9 w9 c9 => m_wouldTake w9 c9 hk m1 m3 (tv_ok hk m1 m2).1 (tv_ok hk m1 m2).2 d1 d2)
set_option maxRecDepth 100000 in
theorem a_wouldMend {X : mi_X} (hX1 : mi_X1 X) (hX : mi_X23 X) {h : mi_H} {B : Nat} (hw : ph_W B ph_0 (fun _ _ => 0) (fun _ _ => 0) h) {O : Nat} (hO : B + 518 ≤ O ∧ O < h.1) {g : Nat → Int64} (hOc : h.2 O = oL g) (x : Int32) (y : Int32) : aI X kL_wouldMend 2 kX9_wouldMend B O h g [.int x, .int y] 0 0 := by
  rcases pk_ix x (n := 240) (by decide) with c | c | ⟨k, hk, rfl⟩
  · exact aI.thr 1 0 (by decide) (e_wouldMend_s hw hO hOc (Or.inl c)) (fun M9 h9 w9 c9 => m_wouldMend_s w9 c9 (Or.inl c))
  · exact aI.thr 1 0 (by decide) (e_wouldMend_s hw hO hOc (Or.inr c)) (fun M9 h9 w9 c9 => m_wouldMend_s w9 c9 (Or.inr c))
  · by_cases c1 : y < 0 ∨ (65535 : Int32) < y
    · exact aI.thr 2 0 (by decide) (e_wouldMend_t hw hO hOc hk c1) (fun M9 h9 w9 c9 => m_wouldMend_t w9 c9 hk c1)
    have d1 : ¬ y < 0 := fun e => c1 (Or.inl e)
    have d2 : ¬ (65535 : Int32) < y := fun e => c1 (Or.inr e)
    exact aI.ret 2 (e_wouldMend hw hO hOc hX1 hk d1 (Int32.not_lt.mp d2)) (fun M9 h9 w9 c9 => m_wouldMend w9 c9 hk d1 d2)
