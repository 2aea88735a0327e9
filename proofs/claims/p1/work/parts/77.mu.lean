-- what the reference counts
set_option maxHeartbeats 4000000 in
set_option maxRecDepth 100000 in
theorem l_told {X : mi_X} {h : mi_H} {M : Nat} (hw : mo_W M h) {th : Int32} (hc : h.2 M = mo_c M th mo_0) {w : Int32} (g4 : ¬ w < 4) (g7 : ¬ 7 < w) {a : Nat} {Q : Option Value → mi_H → Prop} (kk : mi_W pP X kX9_told 3 1 13 58 [(4, .int (nI 240)), (3, .int 0), (2, .ref a), (0, .ref M), (1, .int w)] [] h Q) : ∀ (m t : Nat), t + m = 240 → mi_W pP X kX9_told 3 1 13 9 [(4, .int (nI t)), (3, .int 0), (2, .ref a), (0, .ref M), (1, .int w)] [] h Q := by
  intro m
  induction m with
  | zero =>
    intro t ht
    obtain rfl : t = 240 := by omega
    refine mi_blk okX9_told 2 (pc' := 14) (lv' := [(4, .int (nI 240)), (3, .int 0), (2, .ref a), (0, .ref M), (1, .int w)]) (st' := [.int 240, .int (nI 240)]) rfl ?_
    refine mi_ic_ge okX9_told rfl rfl (fun c_14 => ?_) (fun c_14 => absurd (by decide) c_14)
    exact kk
  | succ m ih =>
    intro t ht
    refine mi_blk okX9_told 2 (pc' := 14) (lv' := [(4, .int (nI t)), (3, .int 0), (2, .ref a), (0, .ref M), (1, .int w)]) (st' := [.int 240, .int (nI t)]) rfl ?_
    refine mi_ic_ge okX9_told rfl rfl (fun c_14 => absurd c_14 (nI_ge (a := t) (b := 240) (by omega) (by decide))) (fun c_14 => ?_)
    refine mi_blk okX9_told 3 (pc' := 21) (lv' := [(4, .int (nI t)), (3, .int 0), (2, .ref a), (0, .ref M), (1, .int w)]) (st' := [.int 7, .int 4, .int w]) rfl ?_
    refine mi_callS okX9_told (mc := 1) (ms := 13) (mc' := 0) (ms' := 0) (As := [.int w, .int 4, .int 7]) (st := []) rfl cs_RX9_46 rfl (by decide) (Nat.le_of_ble_eq_true rfl) (m_isIn_1 g4 g7) (fun r h1 q => ?_)
    obtain ⟨rfl, e9⟩ := q; have e9 := e9.symm; subst e9
    change mi_WX _ pP X kX9_told 3 1 13 24 [(4, .int (nI t)), (3, .int 0), (2, .ref a), (0, .ref M), (1, .int w)] [.int 1] h _
    refine mi_if_eq okX9_told rfl rfl (fun c_24 => absurd c_24 (by decide)) (fun c_24 => ?_)
    refine mi_blk okX9_told 1 (pc' := 28) (lv' := [(4, .int (nI t)), (3, .int 0), (2, .ref a), (0, .ref M), (1, .int w)]) (st' := [.ref M]) rfl ?_
    refine mi_getf okX9_told rfl fg_RX9_11 (show 6 ≤ _ by have := hw.1; omega) (show _ < h.1 by have := hw.1; omega) hc (v := .ref (M + 1)) rfl ?_
    refine mi_blk okX9_told 1 (pc' := 33) (lv' := [(4, .int (nI t)), (3, .int 0), (2, .ref a), (0, .ref M), (1, .int w)]) (st' := [.int (nI t), .ref (M + 1)]) rfl ?_
    refine mo_aab okX9_told (k := t) rfl hw (by omega) ?_
    refine mi_ifnull_n okX9_told rfl rfl ?_
    refine mi_blk okX9_told 2 (pc' := 9) (lv' := [(4, .int ((nI t) + 1)), (3, .int 0), (2, .ref a), (0, .ref M), (1, .int w)]) (st' := []) rfl ?_
    rw [← nI_succ]
    exact ih (t + 1) (by omega)
set_option maxHeartbeats 4000000 in
set_option maxRecDepth 100000 in
theorem m_told_0 {X : mi_X} {h : mi_H} {M : Nat} (hw : mo_W M h) {th : Int32} (hc : h.2 M = mo_c M th mo_0) : mi_S pP X kX9_told 3 [.ref M, .int 0] h 2 16 (fun r h1 => r = some (.int 0) ∧ tp h h1) := by
  refine enX9_told (Nat.le_of_ble_eq_true rfl) ?_
  refine mi_blk okX9_told 1 (pc' := 1) (lv' := [(0, .ref M), (1, .int 0)]) (st' := [.int 3]) rfl ?_
  refine mi_newa okX9_told (mc := 1) (ms := 13) (t := 0) (N := 3) (z := .inl (fun _ => 0)) rfl rfl ac_int (by decide) (by decide) (by decide) (fun _ => rfl) (fun _ => rfl) ?_
  change mi_WX _ pP X kX9_told 3 1 13 3 [(0, .ref M), (1, .int 0)] [.ref h.1] (mi_psh h (.inl (0, 3, .inl (fun _ => 0)))) _
  refine mi_blk okX9_told 7 (pc' := 14) (lv' := [(4, .int 0), (3, .int 0), (2, .ref h.1), (0, .ref M), (1, .int 0)]) (st' := [.int 240, .int 0]) rfl ?_
  refine mi_ic_ge okX9_told rfl rfl (fun c_14 => absurd c_14 (by decide)) (fun c_14 => ?_)
  refine mi_blk okX9_told 3 (pc' := 21) (lv' := [(4, .int 0), (3, .int 0), (2, .ref h.1), (0, .ref M), (1, .int 0)]) (st' := [.int 7, .int 4, .int 0]) rfl ?_
  refine mi_callS okX9_told (mc := 1) (ms := 13) (mc' := 0) (ms' := 0) (As := [.int 0, .int 4, .int 7]) (st := []) rfl cs_RX9_46 rfl (by decide) (Nat.le_of_ble_eq_true rfl) (m_isIn_0 (by decide)) (fun r h1 q => ?_)
  obtain ⟨rfl, e9⟩ := q; have e9 := e9.symm; subst e9
  change mi_WX _ pP X kX9_told 3 1 13 24 [(4, .int 0), (3, .int 0), (2, .ref h.1), (0, .ref M), (1, .int 0)] [.int 0] (mi_psh h (.inl (0, 3, .inl (fun _ => 0)))) _
  refine mi_if_eq okX9_told rfl rfl (fun c_24 => ?_) (fun c_24 => absurd (by decide) c_24)
  refine mi_blk okX9_told 1 (pc' := 60) (lv' := [(4, .int 0), (3, .int 0), (2, .ref h.1), (0, .ref M), (1, .int 0)]) (st' := [.int 13]) rfl ?_
  refine mi_newa okX9_told (mc := 0) (ms := 0) (t := 0) (N := 13) (z := .inl (fun _ => 0)) rfl rfl ac_int (by decide) (by decide) (by decide) (fun _ => rfl) (fun _ => rfl) ?_
  change mi_WX _ pP X kX9_told 3 0 0 62 [(4, .int 0), (3, .int 0), (2, .ref h.1), (0, .ref M), (1, .int 0)] [.ref (h.1 + 1)] (mi_psh (mi_psh h (.inl (0, 3, .inl (fun _ => 0)))) (.inl (0, 13, .inl (fun _ => 0)))) _
  refine mi_blk okX9_told 3 (pc' := 65) (lv' := [(4, .int 0), (3, .int 0), (2, .ref h.1), (0, .ref M), (1, .int 0)]) (st' := [.ref M, .int 0, .ref (h.1 + 1), .ref (h.1 + 1)]) rfl ?_
  refine mi_getf okX9_told rfl fg_RX9_124 (show 6 ≤ _ by have := hw.1; omega) (Nat.lt_succ_of_lt (Nat.lt_succ_of_lt (show _ < h.1 by have := hw.1; omega))) ((mi_psh_lt (Nat.lt_succ_of_lt (show _ < h.1 by have := hw.1; omega))).trans ((mi_psh_lt (show _ < h.1 by have := hw.1; omega)).trans hc)) (v := .int 0) rfl ?_
  refine mo_ist okX9_told (j := 0) rfl (by have := hw.1; omega) (Nat.lt_succ_self _) mi_psh_self rfl (by decide) (by decide) ?_
  rw [mi_set_psh]
  refine mi_blk okX9_told 3 (pc' := 72) (lv' := [(4, .int 0), (3, .int 0), (2, .ref h.1), (0, .ref M), (1, .int 0)]) (st' := [.ref M, .int 1, .ref (h.1 + 1), .ref (h.1 + 1)]) rfl ?_
  refine mi_getf okX9_told rfl fg_RX9_21 (show 6 ≤ _ by have := hw.1; omega) (Nat.lt_succ_of_lt (Nat.lt_succ_of_lt (show _ < h.1 by have := hw.1; omega))) ((mi_psh_lt (Nat.lt_succ_of_lt (show _ < h.1 by have := hw.1; omega))).trans ((mi_psh_lt (show _ < h.1 by have := hw.1; omega)).trans hc)) (v := .ref (M + 3)) rfl ?_
  refine mi_callV okX9_told (mc := 0) (ms := 0) (mc' := 0) (ms' := 0) (b := (M + 3)) (As := []) (st := [.int 1, .ref (h.1 + 1), .ref (h.1 + 1)]) rfl cv_RX9_42 rfl (by decide) (show 6 ≤ _ by have := hw.1; omega) (Nat.lt_succ_of_lt (Nat.lt_succ_of_lt (show _ < h.1 by have := hw.1; omega))) ((mi_psh_lt (Nat.lt_succ_of_lt (show _ < h.1 by have := hw.1; omega))).trans ((mi_psh_lt (show _ < h.1 by have := hw.1; omega)).trans hw.2.2.1)) rfl (Nat.le_of_ble_eq_true rfl) (m_size (show 6 ≤ _ by have := hw.1; omega) (Nat.lt_succ_of_lt (Nat.lt_succ_of_lt (show _ < h.1 by have := hw.1; omega))) ((mi_psh_lt (Nat.lt_succ_of_lt (show _ < h.1 by have := hw.1; omega))).trans ((mi_psh_lt (show _ < h.1 by have := hw.1; omega)).trans hw.2.2.1))) (fun r h1 q => ?_)
  obtain ⟨rfl, e9⟩ := q; have e9 := e9.symm; subst e9
  change mi_WX _ pP X kX9_told 3 0 0 78 [(4, .int 0), (3, .int 0), (2, .ref h.1), (0, .ref M), (1, .int 0)] [.int 0, .int 1, .ref (h.1 + 1), .ref (h.1 + 1)] (mi_psh (mi_psh h (.inl (0, 3, .inl (fun _ => 0)))) (.inl (0, 13, .inl (va_up (fun _ => 0) 0 0)))) _
  refine mo_ist okX9_told (j := 1) rfl (by have := hw.1; omega) (Nat.lt_succ_self _) mi_psh_self rfl (by decide) (by decide) ?_
  rw [mi_set_psh]
  refine mi_blk okX9_told 3 (pc' := 82) (lv' := [(4, .int 0), (3, .int 0), (2, .ref h.1), (0, .ref M), (1, .int 0)]) (st' := [.ref M, .int 2, .ref (h.1 + 1), .ref (h.1 + 1)]) rfl ?_
  refine mi_getf okX9_told rfl fg_RX9_127 (show 6 ≤ _ by have := hw.1; omega) (Nat.lt_succ_of_lt (Nat.lt_succ_of_lt (show _ < h.1 by have := hw.1; omega))) ((mi_psh_lt (Nat.lt_succ_of_lt (show _ < h.1 by have := hw.1; omega))).trans ((mi_psh_lt (show _ < h.1 by have := hw.1; omega)).trans hc)) (v := .int 0) rfl ?_
  refine mo_ist okX9_told (j := 2) rfl (by have := hw.1; omega) (Nat.lt_succ_self _) mi_psh_self rfl (by decide) (by decide) ?_
  rw [mi_set_psh]
  refine mi_blk okX9_told 3 (pc' := 89) (lv' := [(4, .int 0), (3, .int 0), (2, .ref h.1), (0, .ref M), (1, .int 0)]) (st' := [.ref M, .int 3, .ref (h.1 + 1), .ref (h.1 + 1)]) rfl ?_
  refine mi_getf okX9_told rfl fg_RX9_28 (show 6 ≤ _ by have := hw.1; omega) (Nat.lt_succ_of_lt (Nat.lt_succ_of_lt (show _ < h.1 by have := hw.1; omega))) ((mi_psh_lt (Nat.lt_succ_of_lt (show _ < h.1 by have := hw.1; omega))).trans ((mi_psh_lt (show _ < h.1 by have := hw.1; omega)).trans hc)) (v := .int 4) rfl ?_
  refine mo_ist okX9_told (j := 3) rfl (by have := hw.1; omega) (Nat.lt_succ_self _) mi_psh_self rfl (by decide) (by decide) ?_
  rw [mi_set_psh]
  refine mi_blk okX9_told 3 (pc' := 96) (lv' := [(4, .int 0), (3, .int 0), (2, .ref h.1), (0, .ref M), (1, .int 0)]) (st' := [.int 0, .int 4, .ref (h.1 + 1), .ref (h.1 + 1)]) rfl ?_
  refine mo_ist okX9_told (j := 4) rfl (by have := hw.1; omega) (Nat.lt_succ_self _) mi_psh_self rfl (by decide) (by decide) ?_
  rw [mi_set_psh]
  refine mi_blk okX9_told 4 (pc' := 101) (lv' := [(4, .int 0), (3, .int 0), (2, .ref h.1), (0, .ref M), (1, .int 0)]) (st' := [.int 0, .ref h.1, .int 5, .ref (h.1 + 1), .ref (h.1 + 1)]) rfl ?_
  refine mo_ild okX9_told (j := 0) (v := 0) rfl (by have := hw.1; omega) (Nat.lt_succ_of_lt (Nat.lt_succ_self _)) ((mi_psh_lt (Nat.lt_succ_self _)).trans mi_psh_self) rfl (by decide) (by decide) rfl ?_
  refine mo_ist okX9_told (j := 5) rfl (by have := hw.1; omega) (Nat.lt_succ_self _) mi_psh_self rfl (by decide) (by decide) ?_
  rw [mi_set_psh]
  refine mi_blk okX9_told 4 (pc' := 108) (lv' := [(4, .int 0), (3, .int 0), (2, .ref h.1), (0, .ref M), (1, .int 0)]) (st' := [.int 1, .ref h.1, .int 6, .ref (h.1 + 1), .ref (h.1 + 1)]) rfl ?_
  refine mo_ild okX9_told (j := 1) (v := 0) rfl (by have := hw.1; omega) (Nat.lt_succ_of_lt (Nat.lt_succ_self _)) ((mi_psh_lt (Nat.lt_succ_self _)).trans mi_psh_self) rfl (by decide) (by decide) rfl ?_
  refine mo_ist okX9_told (j := 6) rfl (by have := hw.1; omega) (Nat.lt_succ_self _) mi_psh_self rfl (by decide) (by decide) ?_
  rw [mi_set_psh]
  refine mi_blk okX9_told 4 (pc' := 115) (lv' := [(4, .int 0), (3, .int 0), (2, .ref h.1), (0, .ref M), (1, .int 0)]) (st' := [.int 2, .ref h.1, .int 7, .ref (h.1 + 1), .ref (h.1 + 1)]) rfl ?_
  refine mo_ild okX9_told (j := 2) (v := 0) rfl (by have := hw.1; omega) (Nat.lt_succ_of_lt (Nat.lt_succ_self _)) ((mi_psh_lt (Nat.lt_succ_self _)).trans mi_psh_self) rfl (by decide) (by decide) rfl ?_
  refine mo_ist okX9_told (j := 7) rfl (by have := hw.1; omega) (Nat.lt_succ_self _) mi_psh_self rfl (by decide) (by decide) ?_
  rw [mi_set_psh]
  refine mi_blk okX9_told 3 (pc' := 121) (lv' := [(4, .int 0), (3, .int 0), (2, .ref h.1), (0, .ref M), (1, .int 0)]) (st' := [.ref M, .int 8, .ref (h.1 + 1), .ref (h.1 + 1)]) rfl ?_
  refine mi_getf okX9_told rfl fg_RX9_201 (show 6 ≤ _ by have := hw.1; omega) (Nat.lt_succ_of_lt (Nat.lt_succ_of_lt (show _ < h.1 by have := hw.1; omega))) ((mi_psh_lt (Nat.lt_succ_of_lt (show _ < h.1 by have := hw.1; omega))).trans ((mi_psh_lt (show _ < h.1 by have := hw.1; omega)).trans hc)) (v := .int 0) rfl ?_
  refine mo_ist okX9_told (j := 8) rfl (by have := hw.1; omega) (Nat.lt_succ_self _) mi_psh_self rfl (by decide) (by decide) ?_
  rw [mi_set_psh]
  refine mi_blk okX9_told 3 (pc' := 129) (lv' := [(4, .int 0), (3, .int 0), (2, .ref h.1), (0, .ref M), (1, .int 0)]) (st' := [.ref M, .int 9, .ref (h.1 + 1), .ref (h.1 + 1)]) rfl ?_
  refine mi_getf okX9_told rfl fg_RX9_214 (show 6 ≤ _ by have := hw.1; omega) (Nat.lt_succ_of_lt (Nat.lt_succ_of_lt (show _ < h.1 by have := hw.1; omega))) ((mi_psh_lt (Nat.lt_succ_of_lt (show _ < h.1 by have := hw.1; omega))).trans ((mi_psh_lt (show _ < h.1 by have := hw.1; omega)).trans hc)) (v := .int 0) rfl ?_
  refine mo_ist okX9_told (j := 9) rfl (by have := hw.1; omega) (Nat.lt_succ_self _) mi_psh_self rfl (by decide) (by decide) ?_
  rw [mi_set_psh]
  refine mi_blk okX9_told 3 (pc' := 137) (lv' := [(4, .int 0), (3, .int 0), (2, .ref h.1), (0, .ref M), (1, .int 0)]) (st' := [.ref M, .int 10, .ref (h.1 + 1), .ref (h.1 + 1)]) rfl ?_
  refine mi_getf okX9_told rfl fg_RX9_120 (show 6 ≤ _ by have := hw.1; omega) (Nat.lt_succ_of_lt (Nat.lt_succ_of_lt (show _ < h.1 by have := hw.1; omega))) ((mi_psh_lt (Nat.lt_succ_of_lt (show _ < h.1 by have := hw.1; omega))).trans ((mi_psh_lt (show _ < h.1 by have := hw.1; omega)).trans hc)) (v := .int 0) rfl ?_
  refine mi_callS okX9_told (mc := 0) (ms := 0) (mc' := 0) (ms' := 0) (As := [.int 0]) (st := [.int 10, .ref (h.1 + 1), .ref (h.1 + 1)]) rfl cs_RX9_217 rfl (by decide) (Nat.le_of_ble_eq_true rfl) m_one_0 (fun r h1 q => ?_)
  obtain ⟨rfl, e9⟩ := q; have e9 := e9.symm; subst e9
  change mi_WX _ pP X kX9_told 3 0 0 143 [(4, .int 0), (3, .int 0), (2, .ref h.1), (0, .ref M), (1, .int 0)] [.int 0, .int 10, .ref (h.1 + 1), .ref (h.1 + 1)] (mi_psh (mi_psh h (.inl (0, 3, .inl (fun _ => 0)))) (.inl (0, 13, .inl (va_up (va_up (va_up (va_up (va_up (va_up (va_up (va_up (va_up (va_up (fun _ => 0) 0 0) 1 0) 2 0) 3 4) 4 0) 5 0) 6 0) 7 0) 8 0) 9 0)))) _
  refine mo_ist okX9_told (j := 10) rfl (by have := hw.1; omega) (Nat.lt_succ_self _) mi_psh_self rfl (by decide) (by decide) ?_
  rw [mi_set_psh]
  refine mi_blk okX9_told 3 (pc' := 148) (lv' := [(4, .int 0), (3, .int 0), (2, .ref h.1), (0, .ref M), (1, .int 0)]) (st' := [.ref M, .int 11, .ref (h.1 + 1), .ref (h.1 + 1)]) rfl ?_
  refine mi_getf okX9_told rfl fg_RX9_181 (show 6 ≤ _ by have := hw.1; omega) (Nat.lt_succ_of_lt (Nat.lt_succ_of_lt (show _ < h.1 by have := hw.1; omega))) ((mi_psh_lt (Nat.lt_succ_of_lt (show _ < h.1 by have := hw.1; omega))).trans ((mi_psh_lt (show _ < h.1 by have := hw.1; omega)).trans hc)) (v := .int 0) rfl ?_
  refine mo_ist okX9_told (j := 11) rfl (by have := hw.1; omega) (Nat.lt_succ_self _) mi_psh_self rfl (by decide) (by decide) ?_
  rw [mi_set_psh]
  refine mi_blk okX9_told 3 (pc' := 156) (lv' := [(4, .int 0), (3, .int 0), (2, .ref h.1), (0, .ref M), (1, .int 0)]) (st' := [.ref M, .int 12, .ref (h.1 + 1), .ref (h.1 + 1)]) rfl ?_
  refine mi_getf okX9_told rfl fg_RX9_178 (show 6 ≤ _ by have := hw.1; omega) (Nat.lt_succ_of_lt (Nat.lt_succ_of_lt (show _ < h.1 by have := hw.1; omega))) ((mi_psh_lt (Nat.lt_succ_of_lt (show _ < h.1 by have := hw.1; omega))).trans ((mi_psh_lt (show _ < h.1 by have := hw.1; omega)).trans hc)) (v := .int 0) rfl ?_
  refine mi_callS okX9_told (mc := 0) (ms := 0) (mc' := 0) (ms' := 0) (As := [.int 0]) (st := [.int 12, .ref (h.1 + 1), .ref (h.1 + 1)]) rfl cs_RX9_217 rfl (by decide) (Nat.le_of_ble_eq_true rfl) m_one_0 (fun r h1 q => ?_)
  obtain ⟨rfl, e9⟩ := q; have e9 := e9.symm; subst e9
  change mi_WX _ pP X kX9_told 3 0 0 162 [(4, .int 0), (3, .int 0), (2, .ref h.1), (0, .ref M), (1, .int 0)] [.int 0, .int 12, .ref (h.1 + 1), .ref (h.1 + 1)] (mi_psh (mi_psh h (.inl (0, 3, .inl (fun _ => 0)))) (.inl (0, 13, .inl (va_up (va_up (va_up (va_up (va_up (va_up (va_up (va_up (va_up (va_up (va_up (va_up (fun _ => 0) 0 0) 1 0) 2 0) 3 4) 4 0) 5 0) 6 0) 7 0) 8 0) 9 0) 10 0) 11 0)))) _
  refine mo_ist okX9_told (j := 12) rfl (by have := hw.1; omega) (Nat.lt_succ_self _) mi_psh_self rfl (by decide) (by decide) ?_
  rw [mi_set_psh]
  refine mi_blk okX9_told 3 (pc' := 168) (lv' := [(4, .ref (h.1 + 1)), (3, .int 0), (2, .ref h.1), (0, .ref M), (1, .int 0)]) (st' := [.int 0, .ref (h.1 + 1)]) rfl ?_
  refine mo_ild okX9_told (j := 0) (v := 0) rfl (by have := hw.1; omega) (Nat.lt_succ_self _) mi_psh_self rfl (by decide) (by decide) rfl ?_
  exact mi_ret_i okX9_told rfl rfl rfl ⟨rfl, (tp.rf.psh _).psh _⟩
set_option maxHeartbeats 4000000 in
set_option maxRecDepth 100000 in
theorem m_told_1 {X : mi_X} {h : mi_H} {M : Nat} (hw : mo_W M h) {th : Int32} (hc : h.2 M = mo_c M th mo_0) : mi_S pP X kX9_told 3 [.ref M, .int 1] h 2 16 (fun r h1 => r = some (.int 0) ∧ tp h h1) := by
  refine enX9_told (Nat.le_of_ble_eq_true rfl) ?_
  refine mi_blk okX9_told 1 (pc' := 1) (lv' := [(0, .ref M), (1, .int 1)]) (st' := [.int 3]) rfl ?_
  refine mi_newa okX9_told (mc := 1) (ms := 13) (t := 0) (N := 3) (z := .inl (fun _ => 0)) rfl rfl ac_int (by decide) (by decide) (by decide) (fun _ => rfl) (fun _ => rfl) ?_
  change mi_WX _ pP X kX9_told 3 1 13 3 [(0, .ref M), (1, .int 1)] [.ref h.1] (mi_psh h (.inl (0, 3, .inl (fun _ => 0)))) _
  refine mi_blk okX9_told 7 (pc' := 14) (lv' := [(4, .int 0), (3, .int 0), (2, .ref h.1), (0, .ref M), (1, .int 1)]) (st' := [.int 240, .int 0]) rfl ?_
  refine mi_ic_ge okX9_told rfl rfl (fun c_14 => absurd c_14 (by decide)) (fun c_14 => ?_)
  refine mi_blk okX9_told 3 (pc' := 21) (lv' := [(4, .int 0), (3, .int 0), (2, .ref h.1), (0, .ref M), (1, .int 1)]) (st' := [.int 7, .int 4, .int 1]) rfl ?_
  refine mi_callS okX9_told (mc := 1) (ms := 13) (mc' := 0) (ms' := 0) (As := [.int 1, .int 4, .int 7]) (st := []) rfl cs_RX9_46 rfl (by decide) (Nat.le_of_ble_eq_true rfl) (m_isIn_0 (by decide)) (fun r h1 q => ?_)
  obtain ⟨rfl, e9⟩ := q; have e9 := e9.symm; subst e9
  change mi_WX _ pP X kX9_told 3 1 13 24 [(4, .int 0), (3, .int 0), (2, .ref h.1), (0, .ref M), (1, .int 1)] [.int 0] (mi_psh h (.inl (0, 3, .inl (fun _ => 0)))) _
  refine mi_if_eq okX9_told rfl rfl (fun c_24 => ?_) (fun c_24 => absurd (by decide) c_24)
  refine mi_blk okX9_told 1 (pc' := 60) (lv' := [(4, .int 0), (3, .int 0), (2, .ref h.1), (0, .ref M), (1, .int 1)]) (st' := [.int 13]) rfl ?_
  refine mi_newa okX9_told (mc := 0) (ms := 0) (t := 0) (N := 13) (z := .inl (fun _ => 0)) rfl rfl ac_int (by decide) (by decide) (by decide) (fun _ => rfl) (fun _ => rfl) ?_
  change mi_WX _ pP X kX9_told 3 0 0 62 [(4, .int 0), (3, .int 0), (2, .ref h.1), (0, .ref M), (1, .int 1)] [.ref (h.1 + 1)] (mi_psh (mi_psh h (.inl (0, 3, .inl (fun _ => 0)))) (.inl (0, 13, .inl (fun _ => 0)))) _
  refine mi_blk okX9_told 3 (pc' := 65) (lv' := [(4, .int 0), (3, .int 0), (2, .ref h.1), (0, .ref M), (1, .int 1)]) (st' := [.ref M, .int 0, .ref (h.1 + 1), .ref (h.1 + 1)]) rfl ?_
  refine mi_getf okX9_told rfl fg_RX9_124 (show 6 ≤ _ by have := hw.1; omega) (Nat.lt_succ_of_lt (Nat.lt_succ_of_lt (show _ < h.1 by have := hw.1; omega))) ((mi_psh_lt (Nat.lt_succ_of_lt (show _ < h.1 by have := hw.1; omega))).trans ((mi_psh_lt (show _ < h.1 by have := hw.1; omega)).trans hc)) (v := .int 0) rfl ?_
  refine mo_ist okX9_told (j := 0) rfl (by have := hw.1; omega) (Nat.lt_succ_self _) mi_psh_self rfl (by decide) (by decide) ?_
  rw [mi_set_psh]
  refine mi_blk okX9_told 3 (pc' := 72) (lv' := [(4, .int 0), (3, .int 0), (2, .ref h.1), (0, .ref M), (1, .int 1)]) (st' := [.ref M, .int 1, .ref (h.1 + 1), .ref (h.1 + 1)]) rfl ?_
  refine mi_getf okX9_told rfl fg_RX9_21 (show 6 ≤ _ by have := hw.1; omega) (Nat.lt_succ_of_lt (Nat.lt_succ_of_lt (show _ < h.1 by have := hw.1; omega))) ((mi_psh_lt (Nat.lt_succ_of_lt (show _ < h.1 by have := hw.1; omega))).trans ((mi_psh_lt (show _ < h.1 by have := hw.1; omega)).trans hc)) (v := .ref (M + 3)) rfl ?_
  refine mi_callV okX9_told (mc := 0) (ms := 0) (mc' := 0) (ms' := 0) (b := (M + 3)) (As := []) (st := [.int 1, .ref (h.1 + 1), .ref (h.1 + 1)]) rfl cv_RX9_42 rfl (by decide) (show 6 ≤ _ by have := hw.1; omega) (Nat.lt_succ_of_lt (Nat.lt_succ_of_lt (show _ < h.1 by have := hw.1; omega))) ((mi_psh_lt (Nat.lt_succ_of_lt (show _ < h.1 by have := hw.1; omega))).trans ((mi_psh_lt (show _ < h.1 by have := hw.1; omega)).trans hw.2.2.1)) rfl (Nat.le_of_ble_eq_true rfl) (m_size (show 6 ≤ _ by have := hw.1; omega) (Nat.lt_succ_of_lt (Nat.lt_succ_of_lt (show _ < h.1 by have := hw.1; omega))) ((mi_psh_lt (Nat.lt_succ_of_lt (show _ < h.1 by have := hw.1; omega))).trans ((mi_psh_lt (show _ < h.1 by have := hw.1; omega)).trans hw.2.2.1))) (fun r h1 q => ?_)
  obtain ⟨rfl, e9⟩ := q; have e9 := e9.symm; subst e9
  change mi_WX _ pP X kX9_told 3 0 0 78 [(4, .int 0), (3, .int 0), (2, .ref h.1), (0, .ref M), (1, .int 1)] [.int 0, .int 1, .ref (h.1 + 1), .ref (h.1 + 1)] (mi_psh (mi_psh h (.inl (0, 3, .inl (fun _ => 0)))) (.inl (0, 13, .inl (va_up (fun _ => 0) 0 0)))) _
  refine mo_ist okX9_told (j := 1) rfl (by have := hw.1; omega) (Nat.lt_succ_self _) mi_psh_self rfl (by decide) (by decide) ?_
  rw [mi_set_psh]
  refine mi_blk okX9_told 3 (pc' := 82) (lv' := [(4, .int 0), (3, .int 0), (2, .ref h.1), (0, .ref M), (1, .int 1)]) (st' := [.ref M, .int 2, .ref (h.1 + 1), .ref (h.1 + 1)]) rfl ?_
  refine mi_getf okX9_told rfl fg_RX9_127 (show 6 ≤ _ by have := hw.1; omega) (Nat.lt_succ_of_lt (Nat.lt_succ_of_lt (show _ < h.1 by have := hw.1; omega))) ((mi_psh_lt (Nat.lt_succ_of_lt (show _ < h.1 by have := hw.1; omega))).trans ((mi_psh_lt (show _ < h.1 by have := hw.1; omega)).trans hc)) (v := .int 0) rfl ?_
  refine mo_ist okX9_told (j := 2) rfl (by have := hw.1; omega) (Nat.lt_succ_self _) mi_psh_self rfl (by decide) (by decide) ?_
  rw [mi_set_psh]
  refine mi_blk okX9_told 3 (pc' := 89) (lv' := [(4, .int 0), (3, .int 0), (2, .ref h.1), (0, .ref M), (1, .int 1)]) (st' := [.ref M, .int 3, .ref (h.1 + 1), .ref (h.1 + 1)]) rfl ?_
  refine mi_getf okX9_told rfl fg_RX9_28 (show 6 ≤ _ by have := hw.1; omega) (Nat.lt_succ_of_lt (Nat.lt_succ_of_lt (show _ < h.1 by have := hw.1; omega))) ((mi_psh_lt (Nat.lt_succ_of_lt (show _ < h.1 by have := hw.1; omega))).trans ((mi_psh_lt (show _ < h.1 by have := hw.1; omega)).trans hc)) (v := .int 4) rfl ?_
  refine mo_ist okX9_told (j := 3) rfl (by have := hw.1; omega) (Nat.lt_succ_self _) mi_psh_self rfl (by decide) (by decide) ?_
  rw [mi_set_psh]
  refine mi_blk okX9_told 3 (pc' := 96) (lv' := [(4, .int 0), (3, .int 0), (2, .ref h.1), (0, .ref M), (1, .int 1)]) (st' := [.int 0, .int 4, .ref (h.1 + 1), .ref (h.1 + 1)]) rfl ?_
  refine mo_ist okX9_told (j := 4) rfl (by have := hw.1; omega) (Nat.lt_succ_self _) mi_psh_self rfl (by decide) (by decide) ?_
  rw [mi_set_psh]
  refine mi_blk okX9_told 4 (pc' := 101) (lv' := [(4, .int 0), (3, .int 0), (2, .ref h.1), (0, .ref M), (1, .int 1)]) (st' := [.int 0, .ref h.1, .int 5, .ref (h.1 + 1), .ref (h.1 + 1)]) rfl ?_
  refine mo_ild okX9_told (j := 0) (v := 0) rfl (by have := hw.1; omega) (Nat.lt_succ_of_lt (Nat.lt_succ_self _)) ((mi_psh_lt (Nat.lt_succ_self _)).trans mi_psh_self) rfl (by decide) (by decide) rfl ?_
  refine mo_ist okX9_told (j := 5) rfl (by have := hw.1; omega) (Nat.lt_succ_self _) mi_psh_self rfl (by decide) (by decide) ?_
  rw [mi_set_psh]
  refine mi_blk okX9_told 4 (pc' := 108) (lv' := [(4, .int 0), (3, .int 0), (2, .ref h.1), (0, .ref M), (1, .int 1)]) (st' := [.int 1, .ref h.1, .int 6, .ref (h.1 + 1), .ref (h.1 + 1)]) rfl ?_
  refine mo_ild okX9_told (j := 1) (v := 0) rfl (by have := hw.1; omega) (Nat.lt_succ_of_lt (Nat.lt_succ_self _)) ((mi_psh_lt (Nat.lt_succ_self _)).trans mi_psh_self) rfl (by decide) (by decide) rfl ?_
  refine mo_ist okX9_told (j := 6) rfl (by have := hw.1; omega) (Nat.lt_succ_self _) mi_psh_self rfl (by decide) (by decide) ?_
  rw [mi_set_psh]
  refine mi_blk okX9_told 4 (pc' := 115) (lv' := [(4, .int 0), (3, .int 0), (2, .ref h.1), (0, .ref M), (1, .int 1)]) (st' := [.int 2, .ref h.1, .int 7, .ref (h.1 + 1), .ref (h.1 + 1)]) rfl ?_
  refine mo_ild okX9_told (j := 2) (v := 0) rfl (by have := hw.1; omega) (Nat.lt_succ_of_lt (Nat.lt_succ_self _)) ((mi_psh_lt (Nat.lt_succ_self _)).trans mi_psh_self) rfl (by decide) (by decide) rfl ?_
  refine mo_ist okX9_told (j := 7) rfl (by have := hw.1; omega) (Nat.lt_succ_self _) mi_psh_self rfl (by decide) (by decide) ?_
  rw [mi_set_psh]
  refine mi_blk okX9_told 3 (pc' := 121) (lv' := [(4, .int 0), (3, .int 0), (2, .ref h.1), (0, .ref M), (1, .int 1)]) (st' := [.ref M, .int 8, .ref (h.1 + 1), .ref (h.1 + 1)]) rfl ?_
  refine mi_getf okX9_told rfl fg_RX9_201 (show 6 ≤ _ by have := hw.1; omega) (Nat.lt_succ_of_lt (Nat.lt_succ_of_lt (show _ < h.1 by have := hw.1; omega))) ((mi_psh_lt (Nat.lt_succ_of_lt (show _ < h.1 by have := hw.1; omega))).trans ((mi_psh_lt (show _ < h.1 by have := hw.1; omega)).trans hc)) (v := .int 0) rfl ?_
  refine mo_ist okX9_told (j := 8) rfl (by have := hw.1; omega) (Nat.lt_succ_self _) mi_psh_self rfl (by decide) (by decide) ?_
  rw [mi_set_psh]
  refine mi_blk okX9_told 3 (pc' := 129) (lv' := [(4, .int 0), (3, .int 0), (2, .ref h.1), (0, .ref M), (1, .int 1)]) (st' := [.ref M, .int 9, .ref (h.1 + 1), .ref (h.1 + 1)]) rfl ?_
  refine mi_getf okX9_told rfl fg_RX9_214 (show 6 ≤ _ by have := hw.1; omega) (Nat.lt_succ_of_lt (Nat.lt_succ_of_lt (show _ < h.1 by have := hw.1; omega))) ((mi_psh_lt (Nat.lt_succ_of_lt (show _ < h.1 by have := hw.1; omega))).trans ((mi_psh_lt (show _ < h.1 by have := hw.1; omega)).trans hc)) (v := .int 0) rfl ?_
  refine mo_ist okX9_told (j := 9) rfl (by have := hw.1; omega) (Nat.lt_succ_self _) mi_psh_self rfl (by decide) (by decide) ?_
  rw [mi_set_psh]
  refine mi_blk okX9_told 3 (pc' := 137) (lv' := [(4, .int 0), (3, .int 0), (2, .ref h.1), (0, .ref M), (1, .int 1)]) (st' := [.ref M, .int 10, .ref (h.1 + 1), .ref (h.1 + 1)]) rfl ?_
  refine mi_getf okX9_told rfl fg_RX9_120 (show 6 ≤ _ by have := hw.1; omega) (Nat.lt_succ_of_lt (Nat.lt_succ_of_lt (show _ < h.1 by have := hw.1; omega))) ((mi_psh_lt (Nat.lt_succ_of_lt (show _ < h.1 by have := hw.1; omega))).trans ((mi_psh_lt (show _ < h.1 by have := hw.1; omega)).trans hc)) (v := .int 0) rfl ?_
  refine mi_callS okX9_told (mc := 0) (ms := 0) (mc' := 0) (ms' := 0) (As := [.int 0]) (st := [.int 10, .ref (h.1 + 1), .ref (h.1 + 1)]) rfl cs_RX9_217 rfl (by decide) (Nat.le_of_ble_eq_true rfl) m_one_0 (fun r h1 q => ?_)
  obtain ⟨rfl, e9⟩ := q; have e9 := e9.symm; subst e9
  change mi_WX _ pP X kX9_told 3 0 0 143 [(4, .int 0), (3, .int 0), (2, .ref h.1), (0, .ref M), (1, .int 1)] [.int 0, .int 10, .ref (h.1 + 1), .ref (h.1 + 1)] (mi_psh (mi_psh h (.inl (0, 3, .inl (fun _ => 0)))) (.inl (0, 13, .inl (va_up (va_up (va_up (va_up (va_up (va_up (va_up (va_up (va_up (va_up (fun _ => 0) 0 0) 1 0) 2 0) 3 4) 4 0) 5 0) 6 0) 7 0) 8 0) 9 0)))) _
  refine mo_ist okX9_told (j := 10) rfl (by have := hw.1; omega) (Nat.lt_succ_self _) mi_psh_self rfl (by decide) (by decide) ?_
  rw [mi_set_psh]
  refine mi_blk okX9_told 3 (pc' := 148) (lv' := [(4, .int 0), (3, .int 0), (2, .ref h.1), (0, .ref M), (1, .int 1)]) (st' := [.ref M, .int 11, .ref (h.1 + 1), .ref (h.1 + 1)]) rfl ?_
  refine mi_getf okX9_told rfl fg_RX9_181 (show 6 ≤ _ by have := hw.1; omega) (Nat.lt_succ_of_lt (Nat.lt_succ_of_lt (show _ < h.1 by have := hw.1; omega))) ((mi_psh_lt (Nat.lt_succ_of_lt (show _ < h.1 by have := hw.1; omega))).trans ((mi_psh_lt (show _ < h.1 by have := hw.1; omega)).trans hc)) (v := .int 0) rfl ?_
  refine mo_ist okX9_told (j := 11) rfl (by have := hw.1; omega) (Nat.lt_succ_self _) mi_psh_self rfl (by decide) (by decide) ?_
  rw [mi_set_psh]
  refine mi_blk okX9_told 3 (pc' := 156) (lv' := [(4, .int 0), (3, .int 0), (2, .ref h.1), (0, .ref M), (1, .int 1)]) (st' := [.ref M, .int 12, .ref (h.1 + 1), .ref (h.1 + 1)]) rfl ?_
  refine mi_getf okX9_told rfl fg_RX9_178 (show 6 ≤ _ by have := hw.1; omega) (Nat.lt_succ_of_lt (Nat.lt_succ_of_lt (show _ < h.1 by have := hw.1; omega))) ((mi_psh_lt (Nat.lt_succ_of_lt (show _ < h.1 by have := hw.1; omega))).trans ((mi_psh_lt (show _ < h.1 by have := hw.1; omega)).trans hc)) (v := .int 0) rfl ?_
  refine mi_callS okX9_told (mc := 0) (ms := 0) (mc' := 0) (ms' := 0) (As := [.int 0]) (st := [.int 12, .ref (h.1 + 1), .ref (h.1 + 1)]) rfl cs_RX9_217 rfl (by decide) (Nat.le_of_ble_eq_true rfl) m_one_0 (fun r h1 q => ?_)
  obtain ⟨rfl, e9⟩ := q; have e9 := e9.symm; subst e9
  change mi_WX _ pP X kX9_told 3 0 0 162 [(4, .int 0), (3, .int 0), (2, .ref h.1), (0, .ref M), (1, .int 1)] [.int 0, .int 12, .ref (h.1 + 1), .ref (h.1 + 1)] (mi_psh (mi_psh h (.inl (0, 3, .inl (fun _ => 0)))) (.inl (0, 13, .inl (va_up (va_up (va_up (va_up (va_up (va_up (va_up (va_up (va_up (va_up (va_up (va_up (fun _ => 0) 0 0) 1 0) 2 0) 3 4) 4 0) 5 0) 6 0) 7 0) 8 0) 9 0) 10 0) 11 0)))) _
  refine mo_ist okX9_told (j := 12) rfl (by have := hw.1; omega) (Nat.lt_succ_self _) mi_psh_self rfl (by decide) (by decide) ?_
  rw [mi_set_psh]
  refine mi_blk okX9_told 3 (pc' := 168) (lv' := [(4, .ref (h.1 + 1)), (3, .int 0), (2, .ref h.1), (0, .ref M), (1, .int 1)]) (st' := [.int 1, .ref (h.1 + 1)]) rfl ?_
  refine mo_ild okX9_told (j := 1) (v := 0) rfl (by have := hw.1; omega) (Nat.lt_succ_self _) mi_psh_self rfl (by decide) (by decide) rfl ?_
  exact mi_ret_i okX9_told rfl rfl rfl ⟨rfl, (tp.rf.psh _).psh _⟩
set_option maxHeartbeats 4000000 in
set_option maxRecDepth 100000 in
theorem m_told_2 {X : mi_X} {h : mi_H} {M : Nat} (hw : mo_W M h) {th : Int32} (hc : h.2 M = mo_c M th mo_0) : mi_S pP X kX9_told 3 [.ref M, .int 2] h 2 16 (fun r h1 => r = some (.int 0) ∧ tp h h1) := by
  refine enX9_told (Nat.le_of_ble_eq_true rfl) ?_
  refine mi_blk okX9_told 1 (pc' := 1) (lv' := [(0, .ref M), (1, .int 2)]) (st' := [.int 3]) rfl ?_
  refine mi_newa okX9_told (mc := 1) (ms := 13) (t := 0) (N := 3) (z := .inl (fun _ => 0)) rfl rfl ac_int (by decide) (by decide) (by decide) (fun _ => rfl) (fun _ => rfl) ?_
  change mi_WX _ pP X kX9_told 3 1 13 3 [(0, .ref M), (1, .int 2)] [.ref h.1] (mi_psh h (.inl (0, 3, .inl (fun _ => 0)))) _
  refine mi_blk okX9_told 7 (pc' := 14) (lv' := [(4, .int 0), (3, .int 0), (2, .ref h.1), (0, .ref M), (1, .int 2)]) (st' := [.int 240, .int 0]) rfl ?_
  refine mi_ic_ge okX9_told rfl rfl (fun c_14 => absurd c_14 (by decide)) (fun c_14 => ?_)
  refine mi_blk okX9_told 3 (pc' := 21) (lv' := [(4, .int 0), (3, .int 0), (2, .ref h.1), (0, .ref M), (1, .int 2)]) (st' := [.int 7, .int 4, .int 2]) rfl ?_
  refine mi_callS okX9_told (mc := 1) (ms := 13) (mc' := 0) (ms' := 0) (As := [.int 2, .int 4, .int 7]) (st := []) rfl cs_RX9_46 rfl (by decide) (Nat.le_of_ble_eq_true rfl) (m_isIn_0 (by decide)) (fun r h1 q => ?_)
  obtain ⟨rfl, e9⟩ := q; have e9 := e9.symm; subst e9
  change mi_WX _ pP X kX9_told 3 1 13 24 [(4, .int 0), (3, .int 0), (2, .ref h.1), (0, .ref M), (1, .int 2)] [.int 0] (mi_psh h (.inl (0, 3, .inl (fun _ => 0)))) _
  refine mi_if_eq okX9_told rfl rfl (fun c_24 => ?_) (fun c_24 => absurd (by decide) c_24)
  refine mi_blk okX9_told 1 (pc' := 60) (lv' := [(4, .int 0), (3, .int 0), (2, .ref h.1), (0, .ref M), (1, .int 2)]) (st' := [.int 13]) rfl ?_
  refine mi_newa okX9_told (mc := 0) (ms := 0) (t := 0) (N := 13) (z := .inl (fun _ => 0)) rfl rfl ac_int (by decide) (by decide) (by decide) (fun _ => rfl) (fun _ => rfl) ?_
  change mi_WX _ pP X kX9_told 3 0 0 62 [(4, .int 0), (3, .int 0), (2, .ref h.1), (0, .ref M), (1, .int 2)] [.ref (h.1 + 1)] (mi_psh (mi_psh h (.inl (0, 3, .inl (fun _ => 0)))) (.inl (0, 13, .inl (fun _ => 0)))) _
  refine mi_blk okX9_told 3 (pc' := 65) (lv' := [(4, .int 0), (3, .int 0), (2, .ref h.1), (0, .ref M), (1, .int 2)]) (st' := [.ref M, .int 0, .ref (h.1 + 1), .ref (h.1 + 1)]) rfl ?_
  refine mi_getf okX9_told rfl fg_RX9_124 (show 6 ≤ _ by have := hw.1; omega) (Nat.lt_succ_of_lt (Nat.lt_succ_of_lt (show _ < h.1 by have := hw.1; omega))) ((mi_psh_lt (Nat.lt_succ_of_lt (show _ < h.1 by have := hw.1; omega))).trans ((mi_psh_lt (show _ < h.1 by have := hw.1; omega)).trans hc)) (v := .int 0) rfl ?_
  refine mo_ist okX9_told (j := 0) rfl (by have := hw.1; omega) (Nat.lt_succ_self _) mi_psh_self rfl (by decide) (by decide) ?_
  rw [mi_set_psh]
  refine mi_blk okX9_told 3 (pc' := 72) (lv' := [(4, .int 0), (3, .int 0), (2, .ref h.1), (0, .ref M), (1, .int 2)]) (st' := [.ref M, .int 1, .ref (h.1 + 1), .ref (h.1 + 1)]) rfl ?_
  refine mi_getf okX9_told rfl fg_RX9_21 (show 6 ≤ _ by have := hw.1; omega) (Nat.lt_succ_of_lt (Nat.lt_succ_of_lt (show _ < h.1 by have := hw.1; omega))) ((mi_psh_lt (Nat.lt_succ_of_lt (show _ < h.1 by have := hw.1; omega))).trans ((mi_psh_lt (show _ < h.1 by have := hw.1; omega)).trans hc)) (v := .ref (M + 3)) rfl ?_
  refine mi_callV okX9_told (mc := 0) (ms := 0) (mc' := 0) (ms' := 0) (b := (M + 3)) (As := []) (st := [.int 1, .ref (h.1 + 1), .ref (h.1 + 1)]) rfl cv_RX9_42 rfl (by decide) (show 6 ≤ _ by have := hw.1; omega) (Nat.lt_succ_of_lt (Nat.lt_succ_of_lt (show _ < h.1 by have := hw.1; omega))) ((mi_psh_lt (Nat.lt_succ_of_lt (show _ < h.1 by have := hw.1; omega))).trans ((mi_psh_lt (show _ < h.1 by have := hw.1; omega)).trans hw.2.2.1)) rfl (Nat.le_of_ble_eq_true rfl) (m_size (show 6 ≤ _ by have := hw.1; omega) (Nat.lt_succ_of_lt (Nat.lt_succ_of_lt (show _ < h.1 by have := hw.1; omega))) ((mi_psh_lt (Nat.lt_succ_of_lt (show _ < h.1 by have := hw.1; omega))).trans ((mi_psh_lt (show _ < h.1 by have := hw.1; omega)).trans hw.2.2.1))) (fun r h1 q => ?_)
  obtain ⟨rfl, e9⟩ := q; have e9 := e9.symm; subst e9
  change mi_WX _ pP X kX9_told 3 0 0 78 [(4, .int 0), (3, .int 0), (2, .ref h.1), (0, .ref M), (1, .int 2)] [.int 0, .int 1, .ref (h.1 + 1), .ref (h.1 + 1)] (mi_psh (mi_psh h (.inl (0, 3, .inl (fun _ => 0)))) (.inl (0, 13, .inl (va_up (fun _ => 0) 0 0)))) _
  refine mo_ist okX9_told (j := 1) rfl (by have := hw.1; omega) (Nat.lt_succ_self _) mi_psh_self rfl (by decide) (by decide) ?_
  rw [mi_set_psh]
  refine mi_blk okX9_told 3 (pc' := 82) (lv' := [(4, .int 0), (3, .int 0), (2, .ref h.1), (0, .ref M), (1, .int 2)]) (st' := [.ref M, .int 2, .ref (h.1 + 1), .ref (h.1 + 1)]) rfl ?_
  refine mi_getf okX9_told rfl fg_RX9_127 (show 6 ≤ _ by have := hw.1; omega) (Nat.lt_succ_of_lt (Nat.lt_succ_of_lt (show _ < h.1 by have := hw.1; omega))) ((mi_psh_lt (Nat.lt_succ_of_lt (show _ < h.1 by have := hw.1; omega))).trans ((mi_psh_lt (show _ < h.1 by have := hw.1; omega)).trans hc)) (v := .int 0) rfl ?_
  refine mo_ist okX9_told (j := 2) rfl (by have := hw.1; omega) (Nat.lt_succ_self _) mi_psh_self rfl (by decide) (by decide) ?_
  rw [mi_set_psh]
  refine mi_blk okX9_told 3 (pc' := 89) (lv' := [(4, .int 0), (3, .int 0), (2, .ref h.1), (0, .ref M), (1, .int 2)]) (st' := [.ref M, .int 3, .ref (h.1 + 1), .ref (h.1 + 1)]) rfl ?_
  refine mi_getf okX9_told rfl fg_RX9_28 (show 6 ≤ _ by have := hw.1; omega) (Nat.lt_succ_of_lt (Nat.lt_succ_of_lt (show _ < h.1 by have := hw.1; omega))) ((mi_psh_lt (Nat.lt_succ_of_lt (show _ < h.1 by have := hw.1; omega))).trans ((mi_psh_lt (show _ < h.1 by have := hw.1; omega)).trans hc)) (v := .int 4) rfl ?_
  refine mo_ist okX9_told (j := 3) rfl (by have := hw.1; omega) (Nat.lt_succ_self _) mi_psh_self rfl (by decide) (by decide) ?_
  rw [mi_set_psh]
  refine mi_blk okX9_told 3 (pc' := 96) (lv' := [(4, .int 0), (3, .int 0), (2, .ref h.1), (0, .ref M), (1, .int 2)]) (st' := [.int 0, .int 4, .ref (h.1 + 1), .ref (h.1 + 1)]) rfl ?_
  refine mo_ist okX9_told (j := 4) rfl (by have := hw.1; omega) (Nat.lt_succ_self _) mi_psh_self rfl (by decide) (by decide) ?_
  rw [mi_set_psh]
  refine mi_blk okX9_told 4 (pc' := 101) (lv' := [(4, .int 0), (3, .int 0), (2, .ref h.1), (0, .ref M), (1, .int 2)]) (st' := [.int 0, .ref h.1, .int 5, .ref (h.1 + 1), .ref (h.1 + 1)]) rfl ?_
  refine mo_ild okX9_told (j := 0) (v := 0) rfl (by have := hw.1; omega) (Nat.lt_succ_of_lt (Nat.lt_succ_self _)) ((mi_psh_lt (Nat.lt_succ_self _)).trans mi_psh_self) rfl (by decide) (by decide) rfl ?_
  refine mo_ist okX9_told (j := 5) rfl (by have := hw.1; omega) (Nat.lt_succ_self _) mi_psh_self rfl (by decide) (by decide) ?_
  rw [mi_set_psh]
  refine mi_blk okX9_told 4 (pc' := 108) (lv' := [(4, .int 0), (3, .int 0), (2, .ref h.1), (0, .ref M), (1, .int 2)]) (st' := [.int 1, .ref h.1, .int 6, .ref (h.1 + 1), .ref (h.1 + 1)]) rfl ?_
  refine mo_ild okX9_told (j := 1) (v := 0) rfl (by have := hw.1; omega) (Nat.lt_succ_of_lt (Nat.lt_succ_self _)) ((mi_psh_lt (Nat.lt_succ_self _)).trans mi_psh_self) rfl (by decide) (by decide) rfl ?_
  refine mo_ist okX9_told (j := 6) rfl (by have := hw.1; omega) (Nat.lt_succ_self _) mi_psh_self rfl (by decide) (by decide) ?_
  rw [mi_set_psh]
  refine mi_blk okX9_told 4 (pc' := 115) (lv' := [(4, .int 0), (3, .int 0), (2, .ref h.1), (0, .ref M), (1, .int 2)]) (st' := [.int 2, .ref h.1, .int 7, .ref (h.1 + 1), .ref (h.1 + 1)]) rfl ?_
  refine mo_ild okX9_told (j := 2) (v := 0) rfl (by have := hw.1; omega) (Nat.lt_succ_of_lt (Nat.lt_succ_self _)) ((mi_psh_lt (Nat.lt_succ_self _)).trans mi_psh_self) rfl (by decide) (by decide) rfl ?_
  refine mo_ist okX9_told (j := 7) rfl (by have := hw.1; omega) (Nat.lt_succ_self _) mi_psh_self rfl (by decide) (by decide) ?_
  rw [mi_set_psh]
  refine mi_blk okX9_told 3 (pc' := 121) (lv' := [(4, .int 0), (3, .int 0), (2, .ref h.1), (0, .ref M), (1, .int 2)]) (st' := [.ref M, .int 8, .ref (h.1 + 1), .ref (h.1 + 1)]) rfl ?_
  refine mi_getf okX9_told rfl fg_RX9_201 (show 6 ≤ _ by have := hw.1; omega) (Nat.lt_succ_of_lt (Nat.lt_succ_of_lt (show _ < h.1 by have := hw.1; omega))) ((mi_psh_lt (Nat.lt_succ_of_lt (show _ < h.1 by have := hw.1; omega))).trans ((mi_psh_lt (show _ < h.1 by have := hw.1; omega)).trans hc)) (v := .int 0) rfl ?_
  refine mo_ist okX9_told (j := 8) rfl (by have := hw.1; omega) (Nat.lt_succ_self _) mi_psh_self rfl (by decide) (by decide) ?_
  rw [mi_set_psh]
  refine mi_blk okX9_told 3 (pc' := 129) (lv' := [(4, .int 0), (3, .int 0), (2, .ref h.1), (0, .ref M), (1, .int 2)]) (st' := [.ref M, .int 9, .ref (h.1 + 1), .ref (h.1 + 1)]) rfl ?_
  refine mi_getf okX9_told rfl fg_RX9_214 (show 6 ≤ _ by have := hw.1; omega) (Nat.lt_succ_of_lt (Nat.lt_succ_of_lt (show _ < h.1 by have := hw.1; omega))) ((mi_psh_lt (Nat.lt_succ_of_lt (show _ < h.1 by have := hw.1; omega))).trans ((mi_psh_lt (show _ < h.1 by have := hw.1; omega)).trans hc)) (v := .int 0) rfl ?_
  refine mo_ist okX9_told (j := 9) rfl (by have := hw.1; omega) (Nat.lt_succ_self _) mi_psh_self rfl (by decide) (by decide) ?_
  rw [mi_set_psh]
  refine mi_blk okX9_told 3 (pc' := 137) (lv' := [(4, .int 0), (3, .int 0), (2, .ref h.1), (0, .ref M), (1, .int 2)]) (st' := [.ref M, .int 10, .ref (h.1 + 1), .ref (h.1 + 1)]) rfl ?_
  refine mi_getf okX9_told rfl fg_RX9_120 (show 6 ≤ _ by have := hw.1; omega) (Nat.lt_succ_of_lt (Nat.lt_succ_of_lt (show _ < h.1 by have := hw.1; omega))) ((mi_psh_lt (Nat.lt_succ_of_lt (show _ < h.1 by have := hw.1; omega))).trans ((mi_psh_lt (show _ < h.1 by have := hw.1; omega)).trans hc)) (v := .int 0) rfl ?_
  refine mi_callS okX9_told (mc := 0) (ms := 0) (mc' := 0) (ms' := 0) (As := [.int 0]) (st := [.int 10, .ref (h.1 + 1), .ref (h.1 + 1)]) rfl cs_RX9_217 rfl (by decide) (Nat.le_of_ble_eq_true rfl) m_one_0 (fun r h1 q => ?_)
  obtain ⟨rfl, e9⟩ := q; have e9 := e9.symm; subst e9
  change mi_WX _ pP X kX9_told 3 0 0 143 [(4, .int 0), (3, .int 0), (2, .ref h.1), (0, .ref M), (1, .int 2)] [.int 0, .int 10, .ref (h.1 + 1), .ref (h.1 + 1)] (mi_psh (mi_psh h (.inl (0, 3, .inl (fun _ => 0)))) (.inl (0, 13, .inl (va_up (va_up (va_up (va_up (va_up (va_up (va_up (va_up (va_up (va_up (fun _ => 0) 0 0) 1 0) 2 0) 3 4) 4 0) 5 0) 6 0) 7 0) 8 0) 9 0)))) _
  refine mo_ist okX9_told (j := 10) rfl (by have := hw.1; omega) (Nat.lt_succ_self _) mi_psh_self rfl (by decide) (by decide) ?_
  rw [mi_set_psh]
  refine mi_blk okX9_told 3 (pc' := 148) (lv' := [(4, .int 0), (3, .int 0), (2, .ref h.1), (0, .ref M), (1, .int 2)]) (st' := [.ref M, .int 11, .ref (h.1 + 1), .ref (h.1 + 1)]) rfl ?_
  refine mi_getf okX9_told rfl fg_RX9_181 (show 6 ≤ _ by have := hw.1; omega) (Nat.lt_succ_of_lt (Nat.lt_succ_of_lt (show _ < h.1 by have := hw.1; omega))) ((mi_psh_lt (Nat.lt_succ_of_lt (show _ < h.1 by have := hw.1; omega))).trans ((mi_psh_lt (show _ < h.1 by have := hw.1; omega)).trans hc)) (v := .int 0) rfl ?_
  refine mo_ist okX9_told (j := 11) rfl (by have := hw.1; omega) (Nat.lt_succ_self _) mi_psh_self rfl (by decide) (by decide) ?_
  rw [mi_set_psh]
  refine mi_blk okX9_told 3 (pc' := 156) (lv' := [(4, .int 0), (3, .int 0), (2, .ref h.1), (0, .ref M), (1, .int 2)]) (st' := [.ref M, .int 12, .ref (h.1 + 1), .ref (h.1 + 1)]) rfl ?_
  refine mi_getf okX9_told rfl fg_RX9_178 (show 6 ≤ _ by have := hw.1; omega) (Nat.lt_succ_of_lt (Nat.lt_succ_of_lt (show _ < h.1 by have := hw.1; omega))) ((mi_psh_lt (Nat.lt_succ_of_lt (show _ < h.1 by have := hw.1; omega))).trans ((mi_psh_lt (show _ < h.1 by have := hw.1; omega)).trans hc)) (v := .int 0) rfl ?_
  refine mi_callS okX9_told (mc := 0) (ms := 0) (mc' := 0) (ms' := 0) (As := [.int 0]) (st := [.int 12, .ref (h.1 + 1), .ref (h.1 + 1)]) rfl cs_RX9_217 rfl (by decide) (Nat.le_of_ble_eq_true rfl) m_one_0 (fun r h1 q => ?_)
  obtain ⟨rfl, e9⟩ := q; have e9 := e9.symm; subst e9
  change mi_WX _ pP X kX9_told 3 0 0 162 [(4, .int 0), (3, .int 0), (2, .ref h.1), (0, .ref M), (1, .int 2)] [.int 0, .int 12, .ref (h.1 + 1), .ref (h.1 + 1)] (mi_psh (mi_psh h (.inl (0, 3, .inl (fun _ => 0)))) (.inl (0, 13, .inl (va_up (va_up (va_up (va_up (va_up (va_up (va_up (va_up (va_up (va_up (va_up (va_up (fun _ => 0) 0 0) 1 0) 2 0) 3 4) 4 0) 5 0) 6 0) 7 0) 8 0) 9 0) 10 0) 11 0)))) _
  refine mo_ist okX9_told (j := 12) rfl (by have := hw.1; omega) (Nat.lt_succ_self _) mi_psh_self rfl (by decide) (by decide) ?_
  rw [mi_set_psh]
  refine mi_blk okX9_told 3 (pc' := 168) (lv' := [(4, .ref (h.1 + 1)), (3, .int 0), (2, .ref h.1), (0, .ref M), (1, .int 2)]) (st' := [.int 2, .ref (h.1 + 1)]) rfl ?_
  refine mo_ild okX9_told (j := 2) (v := 0) rfl (by have := hw.1; omega) (Nat.lt_succ_self _) mi_psh_self rfl (by decide) (by decide) rfl ?_
  exact mi_ret_i okX9_told rfl rfl rfl ⟨rfl, (tp.rf.psh _).psh _⟩
set_option maxHeartbeats 4000000 in
set_option maxRecDepth 100000 in
theorem m_told_3 {X : mi_X} {h : mi_H} {M : Nat} (hw : mo_W M h) {th : Int32} (hc : h.2 M = mo_c M th mo_0) : mi_S pP X kX9_told 3 [.ref M, .int 3] h 2 16 (fun r h1 => r = some (.int 4) ∧ tp h h1) := by
  refine enX9_told (Nat.le_of_ble_eq_true rfl) ?_
  refine mi_blk okX9_told 1 (pc' := 1) (lv' := [(0, .ref M), (1, .int 3)]) (st' := [.int 3]) rfl ?_
  refine mi_newa okX9_told (mc := 1) (ms := 13) (t := 0) (N := 3) (z := .inl (fun _ => 0)) rfl rfl ac_int (by decide) (by decide) (by decide) (fun _ => rfl) (fun _ => rfl) ?_
  change mi_WX _ pP X kX9_told 3 1 13 3 [(0, .ref M), (1, .int 3)] [.ref h.1] (mi_psh h (.inl (0, 3, .inl (fun _ => 0)))) _
  refine mi_blk okX9_told 7 (pc' := 14) (lv' := [(4, .int 0), (3, .int 0), (2, .ref h.1), (0, .ref M), (1, .int 3)]) (st' := [.int 240, .int 0]) rfl ?_
  refine mi_ic_ge okX9_told rfl rfl (fun c_14 => absurd c_14 (by decide)) (fun c_14 => ?_)
  refine mi_blk okX9_told 3 (pc' := 21) (lv' := [(4, .int 0), (3, .int 0), (2, .ref h.1), (0, .ref M), (1, .int 3)]) (st' := [.int 7, .int 4, .int 3]) rfl ?_
  refine mi_callS okX9_told (mc := 1) (ms := 13) (mc' := 0) (ms' := 0) (As := [.int 3, .int 4, .int 7]) (st := []) rfl cs_RX9_46 rfl (by decide) (Nat.le_of_ble_eq_true rfl) (m_isIn_0 (by decide)) (fun r h1 q => ?_)
  obtain ⟨rfl, e9⟩ := q; have e9 := e9.symm; subst e9
  change mi_WX _ pP X kX9_told 3 1 13 24 [(4, .int 0), (3, .int 0), (2, .ref h.1), (0, .ref M), (1, .int 3)] [.int 0] (mi_psh h (.inl (0, 3, .inl (fun _ => 0)))) _
  refine mi_if_eq okX9_told rfl rfl (fun c_24 => ?_) (fun c_24 => absurd (by decide) c_24)
  refine mi_blk okX9_told 1 (pc' := 60) (lv' := [(4, .int 0), (3, .int 0), (2, .ref h.1), (0, .ref M), (1, .int 3)]) (st' := [.int 13]) rfl ?_
  refine mi_newa okX9_told (mc := 0) (ms := 0) (t := 0) (N := 13) (z := .inl (fun _ => 0)) rfl rfl ac_int (by decide) (by decide) (by decide) (fun _ => rfl) (fun _ => rfl) ?_
  change mi_WX _ pP X kX9_told 3 0 0 62 [(4, .int 0), (3, .int 0), (2, .ref h.1), (0, .ref M), (1, .int 3)] [.ref (h.1 + 1)] (mi_psh (mi_psh h (.inl (0, 3, .inl (fun _ => 0)))) (.inl (0, 13, .inl (fun _ => 0)))) _
  refine mi_blk okX9_told 3 (pc' := 65) (lv' := [(4, .int 0), (3, .int 0), (2, .ref h.1), (0, .ref M), (1, .int 3)]) (st' := [.ref M, .int 0, .ref (h.1 + 1), .ref (h.1 + 1)]) rfl ?_
  refine mi_getf okX9_told rfl fg_RX9_124 (show 6 ≤ _ by have := hw.1; omega) (Nat.lt_succ_of_lt (Nat.lt_succ_of_lt (show _ < h.1 by have := hw.1; omega))) ((mi_psh_lt (Nat.lt_succ_of_lt (show _ < h.1 by have := hw.1; omega))).trans ((mi_psh_lt (show _ < h.1 by have := hw.1; omega)).trans hc)) (v := .int 0) rfl ?_
  refine mo_ist okX9_told (j := 0) rfl (by have := hw.1; omega) (Nat.lt_succ_self _) mi_psh_self rfl (by decide) (by decide) ?_
  rw [mi_set_psh]
  refine mi_blk okX9_told 3 (pc' := 72) (lv' := [(4, .int 0), (3, .int 0), (2, .ref h.1), (0, .ref M), (1, .int 3)]) (st' := [.ref M, .int 1, .ref (h.1 + 1), .ref (h.1 + 1)]) rfl ?_
  refine mi_getf okX9_told rfl fg_RX9_21 (show 6 ≤ _ by have := hw.1; omega) (Nat.lt_succ_of_lt (Nat.lt_succ_of_lt (show _ < h.1 by have := hw.1; omega))) ((mi_psh_lt (Nat.lt_succ_of_lt (show _ < h.1 by have := hw.1; omega))).trans ((mi_psh_lt (show _ < h.1 by have := hw.1; omega)).trans hc)) (v := .ref (M + 3)) rfl ?_
  refine mi_callV okX9_told (mc := 0) (ms := 0) (mc' := 0) (ms' := 0) (b := (M + 3)) (As := []) (st := [.int 1, .ref (h.1 + 1), .ref (h.1 + 1)]) rfl cv_RX9_42 rfl (by decide) (show 6 ≤ _ by have := hw.1; omega) (Nat.lt_succ_of_lt (Nat.lt_succ_of_lt (show _ < h.1 by have := hw.1; omega))) ((mi_psh_lt (Nat.lt_succ_of_lt (show _ < h.1 by have := hw.1; omega))).trans ((mi_psh_lt (show _ < h.1 by have := hw.1; omega)).trans hw.2.2.1)) rfl (Nat.le_of_ble_eq_true rfl) (m_size (show 6 ≤ _ by have := hw.1; omega) (Nat.lt_succ_of_lt (Nat.lt_succ_of_lt (show _ < h.1 by have := hw.1; omega))) ((mi_psh_lt (Nat.lt_succ_of_lt (show _ < h.1 by have := hw.1; omega))).trans ((mi_psh_lt (show _ < h.1 by have := hw.1; omega)).trans hw.2.2.1))) (fun r h1 q => ?_)
  obtain ⟨rfl, e9⟩ := q; have e9 := e9.symm; subst e9
  change mi_WX _ pP X kX9_told 3 0 0 78 [(4, .int 0), (3, .int 0), (2, .ref h.1), (0, .ref M), (1, .int 3)] [.int 0, .int 1, .ref (h.1 + 1), .ref (h.1 + 1)] (mi_psh (mi_psh h (.inl (0, 3, .inl (fun _ => 0)))) (.inl (0, 13, .inl (va_up (fun _ => 0) 0 0)))) _
  refine mo_ist okX9_told (j := 1) rfl (by have := hw.1; omega) (Nat.lt_succ_self _) mi_psh_self rfl (by decide) (by decide) ?_
  rw [mi_set_psh]
  refine mi_blk okX9_told 3 (pc' := 82) (lv' := [(4, .int 0), (3, .int 0), (2, .ref h.1), (0, .ref M), (1, .int 3)]) (st' := [.ref M, .int 2, .ref (h.1 + 1), .ref (h.1 + 1)]) rfl ?_
  refine mi_getf okX9_told rfl fg_RX9_127 (show 6 ≤ _ by have := hw.1; omega) (Nat.lt_succ_of_lt (Nat.lt_succ_of_lt (show _ < h.1 by have := hw.1; omega))) ((mi_psh_lt (Nat.lt_succ_of_lt (show _ < h.1 by have := hw.1; omega))).trans ((mi_psh_lt (show _ < h.1 by have := hw.1; omega)).trans hc)) (v := .int 0) rfl ?_
  refine mo_ist okX9_told (j := 2) rfl (by have := hw.1; omega) (Nat.lt_succ_self _) mi_psh_self rfl (by decide) (by decide) ?_
  rw [mi_set_psh]
  refine mi_blk okX9_told 3 (pc' := 89) (lv' := [(4, .int 0), (3, .int 0), (2, .ref h.1), (0, .ref M), (1, .int 3)]) (st' := [.ref M, .int 3, .ref (h.1 + 1), .ref (h.1 + 1)]) rfl ?_
  refine mi_getf okX9_told rfl fg_RX9_28 (show 6 ≤ _ by have := hw.1; omega) (Nat.lt_succ_of_lt (Nat.lt_succ_of_lt (show _ < h.1 by have := hw.1; omega))) ((mi_psh_lt (Nat.lt_succ_of_lt (show _ < h.1 by have := hw.1; omega))).trans ((mi_psh_lt (show _ < h.1 by have := hw.1; omega)).trans hc)) (v := .int 4) rfl ?_
  refine mo_ist okX9_told (j := 3) rfl (by have := hw.1; omega) (Nat.lt_succ_self _) mi_psh_self rfl (by decide) (by decide) ?_
  rw [mi_set_psh]
  refine mi_blk okX9_told 3 (pc' := 96) (lv' := [(4, .int 0), (3, .int 0), (2, .ref h.1), (0, .ref M), (1, .int 3)]) (st' := [.int 0, .int 4, .ref (h.1 + 1), .ref (h.1 + 1)]) rfl ?_
  refine mo_ist okX9_told (j := 4) rfl (by have := hw.1; omega) (Nat.lt_succ_self _) mi_psh_self rfl (by decide) (by decide) ?_
  rw [mi_set_psh]
  refine mi_blk okX9_told 4 (pc' := 101) (lv' := [(4, .int 0), (3, .int 0), (2, .ref h.1), (0, .ref M), (1, .int 3)]) (st' := [.int 0, .ref h.1, .int 5, .ref (h.1 + 1), .ref (h.1 + 1)]) rfl ?_
  refine mo_ild okX9_told (j := 0) (v := 0) rfl (by have := hw.1; omega) (Nat.lt_succ_of_lt (Nat.lt_succ_self _)) ((mi_psh_lt (Nat.lt_succ_self _)).trans mi_psh_self) rfl (by decide) (by decide) rfl ?_
  refine mo_ist okX9_told (j := 5) rfl (by have := hw.1; omega) (Nat.lt_succ_self _) mi_psh_self rfl (by decide) (by decide) ?_
  rw [mi_set_psh]
  refine mi_blk okX9_told 4 (pc' := 108) (lv' := [(4, .int 0), (3, .int 0), (2, .ref h.1), (0, .ref M), (1, .int 3)]) (st' := [.int 1, .ref h.1, .int 6, .ref (h.1 + 1), .ref (h.1 + 1)]) rfl ?_
  refine mo_ild okX9_told (j := 1) (v := 0) rfl (by have := hw.1; omega) (Nat.lt_succ_of_lt (Nat.lt_succ_self _)) ((mi_psh_lt (Nat.lt_succ_self _)).trans mi_psh_self) rfl (by decide) (by decide) rfl ?_
  refine mo_ist okX9_told (j := 6) rfl (by have := hw.1; omega) (Nat.lt_succ_self _) mi_psh_self rfl (by decide) (by decide) ?_
  rw [mi_set_psh]
  refine mi_blk okX9_told 4 (pc' := 115) (lv' := [(4, .int 0), (3, .int 0), (2, .ref h.1), (0, .ref M), (1, .int 3)]) (st' := [.int 2, .ref h.1, .int 7, .ref (h.1 + 1), .ref (h.1 + 1)]) rfl ?_
  refine mo_ild okX9_told (j := 2) (v := 0) rfl (by have := hw.1; omega) (Nat.lt_succ_of_lt (Nat.lt_succ_self _)) ((mi_psh_lt (Nat.lt_succ_self _)).trans mi_psh_self) rfl (by decide) (by decide) rfl ?_
  refine mo_ist okX9_told (j := 7) rfl (by have := hw.1; omega) (Nat.lt_succ_self _) mi_psh_self rfl (by decide) (by decide) ?_
  rw [mi_set_psh]
  refine mi_blk okX9_told 3 (pc' := 121) (lv' := [(4, .int 0), (3, .int 0), (2, .ref h.1), (0, .ref M), (1, .int 3)]) (st' := [.ref M, .int 8, .ref (h.1 + 1), .ref (h.1 + 1)]) rfl ?_
  refine mi_getf okX9_told rfl fg_RX9_201 (show 6 ≤ _ by have := hw.1; omega) (Nat.lt_succ_of_lt (Nat.lt_succ_of_lt (show _ < h.1 by have := hw.1; omega))) ((mi_psh_lt (Nat.lt_succ_of_lt (show _ < h.1 by have := hw.1; omega))).trans ((mi_psh_lt (show _ < h.1 by have := hw.1; omega)).trans hc)) (v := .int 0) rfl ?_
  refine mo_ist okX9_told (j := 8) rfl (by have := hw.1; omega) (Nat.lt_succ_self _) mi_psh_self rfl (by decide) (by decide) ?_
  rw [mi_set_psh]
  refine mi_blk okX9_told 3 (pc' := 129) (lv' := [(4, .int 0), (3, .int 0), (2, .ref h.1), (0, .ref M), (1, .int 3)]) (st' := [.ref M, .int 9, .ref (h.1 + 1), .ref (h.1 + 1)]) rfl ?_
  refine mi_getf okX9_told rfl fg_RX9_214 (show 6 ≤ _ by have := hw.1; omega) (Nat.lt_succ_of_lt (Nat.lt_succ_of_lt (show _ < h.1 by have := hw.1; omega))) ((mi_psh_lt (Nat.lt_succ_of_lt (show _ < h.1 by have := hw.1; omega))).trans ((mi_psh_lt (show _ < h.1 by have := hw.1; omega)).trans hc)) (v := .int 0) rfl ?_
  refine mo_ist okX9_told (j := 9) rfl (by have := hw.1; omega) (Nat.lt_succ_self _) mi_psh_self rfl (by decide) (by decide) ?_
  rw [mi_set_psh]
  refine mi_blk okX9_told 3 (pc' := 137) (lv' := [(4, .int 0), (3, .int 0), (2, .ref h.1), (0, .ref M), (1, .int 3)]) (st' := [.ref M, .int 10, .ref (h.1 + 1), .ref (h.1 + 1)]) rfl ?_
  refine mi_getf okX9_told rfl fg_RX9_120 (show 6 ≤ _ by have := hw.1; omega) (Nat.lt_succ_of_lt (Nat.lt_succ_of_lt (show _ < h.1 by have := hw.1; omega))) ((mi_psh_lt (Nat.lt_succ_of_lt (show _ < h.1 by have := hw.1; omega))).trans ((mi_psh_lt (show _ < h.1 by have := hw.1; omega)).trans hc)) (v := .int 0) rfl ?_
  refine mi_callS okX9_told (mc := 0) (ms := 0) (mc' := 0) (ms' := 0) (As := [.int 0]) (st := [.int 10, .ref (h.1 + 1), .ref (h.1 + 1)]) rfl cs_RX9_217 rfl (by decide) (Nat.le_of_ble_eq_true rfl) m_one_0 (fun r h1 q => ?_)
  obtain ⟨rfl, e9⟩ := q; have e9 := e9.symm; subst e9
  change mi_WX _ pP X kX9_told 3 0 0 143 [(4, .int 0), (3, .int 0), (2, .ref h.1), (0, .ref M), (1, .int 3)] [.int 0, .int 10, .ref (h.1 + 1), .ref (h.1 + 1)] (mi_psh (mi_psh h (.inl (0, 3, .inl (fun _ => 0)))) (.inl (0, 13, .inl (va_up (va_up (va_up (va_up (va_up (va_up (va_up (va_up (va_up (va_up (fun _ => 0) 0 0) 1 0) 2 0) 3 4) 4 0) 5 0) 6 0) 7 0) 8 0) 9 0)))) _
  refine mo_ist okX9_told (j := 10) rfl (by have := hw.1; omega) (Nat.lt_succ_self _) mi_psh_self rfl (by decide) (by decide) ?_
  rw [mi_set_psh]
  refine mi_blk okX9_told 3 (pc' := 148) (lv' := [(4, .int 0), (3, .int 0), (2, .ref h.1), (0, .ref M), (1, .int 3)]) (st' := [.ref M, .int 11, .ref (h.1 + 1), .ref (h.1 + 1)]) rfl ?_
  refine mi_getf okX9_told rfl fg_RX9_181 (show 6 ≤ _ by have := hw.1; omega) (Nat.lt_succ_of_lt (Nat.lt_succ_of_lt (show _ < h.1 by have := hw.1; omega))) ((mi_psh_lt (Nat.lt_succ_of_lt (show _ < h.1 by have := hw.1; omega))).trans ((mi_psh_lt (show _ < h.1 by have := hw.1; omega)).trans hc)) (v := .int 0) rfl ?_
  refine mo_ist okX9_told (j := 11) rfl (by have := hw.1; omega) (Nat.lt_succ_self _) mi_psh_self rfl (by decide) (by decide) ?_
  rw [mi_set_psh]
  refine mi_blk okX9_told 3 (pc' := 156) (lv' := [(4, .int 0), (3, .int 0), (2, .ref h.1), (0, .ref M), (1, .int 3)]) (st' := [.ref M, .int 12, .ref (h.1 + 1), .ref (h.1 + 1)]) rfl ?_
  refine mi_getf okX9_told rfl fg_RX9_178 (show 6 ≤ _ by have := hw.1; omega) (Nat.lt_succ_of_lt (Nat.lt_succ_of_lt (show _ < h.1 by have := hw.1; omega))) ((mi_psh_lt (Nat.lt_succ_of_lt (show _ < h.1 by have := hw.1; omega))).trans ((mi_psh_lt (show _ < h.1 by have := hw.1; omega)).trans hc)) (v := .int 0) rfl ?_
  refine mi_callS okX9_told (mc := 0) (ms := 0) (mc' := 0) (ms' := 0) (As := [.int 0]) (st := [.int 12, .ref (h.1 + 1), .ref (h.1 + 1)]) rfl cs_RX9_217 rfl (by decide) (Nat.le_of_ble_eq_true rfl) m_one_0 (fun r h1 q => ?_)
  obtain ⟨rfl, e9⟩ := q; have e9 := e9.symm; subst e9
  change mi_WX _ pP X kX9_told 3 0 0 162 [(4, .int 0), (3, .int 0), (2, .ref h.1), (0, .ref M), (1, .int 3)] [.int 0, .int 12, .ref (h.1 + 1), .ref (h.1 + 1)] (mi_psh (mi_psh h (.inl (0, 3, .inl (fun _ => 0)))) (.inl (0, 13, .inl (va_up (va_up (va_up (va_up (va_up (va_up (va_up (va_up (va_up (va_up (va_up (va_up (fun _ => 0) 0 0) 1 0) 2 0) 3 4) 4 0) 5 0) 6 0) 7 0) 8 0) 9 0) 10 0) 11 0)))) _
  refine mo_ist okX9_told (j := 12) rfl (by have := hw.1; omega) (Nat.lt_succ_self _) mi_psh_self rfl (by decide) (by decide) ?_
  rw [mi_set_psh]
  refine mi_blk okX9_told 3 (pc' := 168) (lv' := [(4, .ref (h.1 + 1)), (3, .int 0), (2, .ref h.1), (0, .ref M), (1, .int 3)]) (st' := [.int 3, .ref (h.1 + 1)]) rfl ?_
  refine mo_ild okX9_told (j := 3) (v := 4) rfl (by have := hw.1; omega) (Nat.lt_succ_self _) mi_psh_self rfl (by decide) (by decide) rfl ?_
  exact mi_ret_i okX9_told rfl rfl rfl ⟨rfl, (tp.rf.psh _).psh _⟩
set_option maxHeartbeats 4000000 in
set_option maxRecDepth 100000 in
theorem m_told_4 {X : mi_X} {h : mi_H} {M : Nat} (hw : mo_W M h) {th : Int32} (hc : h.2 M = mo_c M th mo_0) : mi_S pP X kX9_told 3 [.ref M, .int 4] h 2 16 (fun r h1 => r = some (.int 0) ∧ tp h h1) := by
  refine enX9_told (Nat.le_of_ble_eq_true rfl) ?_
  refine mi_blk okX9_told 1 (pc' := 1) (lv' := [(0, .ref M), (1, .int 4)]) (st' := [.int 3]) rfl ?_
  refine mi_newa okX9_told (mc := 1) (ms := 13) (t := 0) (N := 3) (z := .inl (fun _ => 0)) rfl rfl ac_int (by decide) (by decide) (by decide) (fun _ => rfl) (fun _ => rfl) ?_
  change mi_WX _ pP X kX9_told 3 1 13 3 [(0, .ref M), (1, .int 4)] [.ref h.1] (mi_psh h (.inl (0, 3, .inl (fun _ => 0)))) _
  refine mi_blk okX9_told 5 (pc' := 9) (lv' := [(4, .int 0), (3, .int 0), (2, .ref h.1), (0, .ref M), (1, .int 4)]) (st' := []) rfl ?_
  change mi_WX _ pP X kX9_told 3 1 13 9 [(4, .int (nI 0)), (3, .int 0), (2, .ref h.1), (0, .ref M), (1, .int 4)] [] (mi_psh h (.inl (0, 3, .inl (fun _ => 0)))) _
  refine l_told (hw.psh _) ((mi_psh_lt (show _ < h.1 by have := hw.1; omega)).trans hc) (by decide) (by decide) ?_ 240 0 rfl
  refine mi_blk okX9_told 1 (pc' := 60) (lv' := [(4, .int (nI 240)), (3, .int 0), (2, .ref h.1), (0, .ref M), (1, .int 4)]) (st' := [.int 13]) rfl ?_
  refine mi_newa okX9_told (mc := 0) (ms := 0) (t := 0) (N := 13) (z := .inl (fun _ => 0)) rfl rfl ac_int (by decide) (by decide) (by decide) (fun _ => rfl) (fun _ => rfl) ?_
  change mi_WX _ pP X kX9_told 3 0 0 62 [(4, .int (nI 240)), (3, .int 0), (2, .ref h.1), (0, .ref M), (1, .int 4)] [.ref (h.1 + 1)] (mi_psh (mi_psh h (.inl (0, 3, .inl (fun _ => 0)))) (.inl (0, 13, .inl (fun _ => 0)))) _
  refine mi_blk okX9_told 3 (pc' := 65) (lv' := [(4, .int (nI 240)), (3, .int 0), (2, .ref h.1), (0, .ref M), (1, .int 4)]) (st' := [.ref M, .int 0, .ref (h.1 + 1), .ref (h.1 + 1)]) rfl ?_
  refine mi_getf okX9_told rfl fg_RX9_124 (show 6 ≤ _ by have := hw.1; omega) (Nat.lt_succ_of_lt (Nat.lt_succ_of_lt (show _ < h.1 by have := hw.1; omega))) ((mi_psh_lt (Nat.lt_succ_of_lt (show _ < h.1 by have := hw.1; omega))).trans ((mi_psh_lt (show _ < h.1 by have := hw.1; omega)).trans hc)) (v := .int 0) rfl ?_
  refine mo_ist okX9_told (j := 0) rfl (by have := hw.1; omega) (Nat.lt_succ_self _) mi_psh_self rfl (by decide) (by decide) ?_
  rw [mi_set_psh]
  refine mi_blk okX9_told 3 (pc' := 72) (lv' := [(4, .int (nI 240)), (3, .int 0), (2, .ref h.1), (0, .ref M), (1, .int 4)]) (st' := [.ref M, .int 1, .ref (h.1 + 1), .ref (h.1 + 1)]) rfl ?_
  refine mi_getf okX9_told rfl fg_RX9_21 (show 6 ≤ _ by have := hw.1; omega) (Nat.lt_succ_of_lt (Nat.lt_succ_of_lt (show _ < h.1 by have := hw.1; omega))) ((mi_psh_lt (Nat.lt_succ_of_lt (show _ < h.1 by have := hw.1; omega))).trans ((mi_psh_lt (show _ < h.1 by have := hw.1; omega)).trans hc)) (v := .ref (M + 3)) rfl ?_
  refine mi_callV okX9_told (mc := 0) (ms := 0) (mc' := 0) (ms' := 0) (b := (M + 3)) (As := []) (st := [.int 1, .ref (h.1 + 1), .ref (h.1 + 1)]) rfl cv_RX9_42 rfl (by decide) (show 6 ≤ _ by have := hw.1; omega) (Nat.lt_succ_of_lt (Nat.lt_succ_of_lt (show _ < h.1 by have := hw.1; omega))) ((mi_psh_lt (Nat.lt_succ_of_lt (show _ < h.1 by have := hw.1; omega))).trans ((mi_psh_lt (show _ < h.1 by have := hw.1; omega)).trans hw.2.2.1)) rfl (Nat.le_of_ble_eq_true rfl) (m_size (show 6 ≤ _ by have := hw.1; omega) (Nat.lt_succ_of_lt (Nat.lt_succ_of_lt (show _ < h.1 by have := hw.1; omega))) ((mi_psh_lt (Nat.lt_succ_of_lt (show _ < h.1 by have := hw.1; omega))).trans ((mi_psh_lt (show _ < h.1 by have := hw.1; omega)).trans hw.2.2.1))) (fun r h1 q => ?_)
  obtain ⟨rfl, e9⟩ := q; have e9 := e9.symm; subst e9
  change mi_WX _ pP X kX9_told 3 0 0 78 [(4, .int (nI 240)), (3, .int 0), (2, .ref h.1), (0, .ref M), (1, .int 4)] [.int 0, .int 1, .ref (h.1 + 1), .ref (h.1 + 1)] (mi_psh (mi_psh h (.inl (0, 3, .inl (fun _ => 0)))) (.inl (0, 13, .inl (va_up (fun _ => 0) 0 0)))) _
  refine mo_ist okX9_told (j := 1) rfl (by have := hw.1; omega) (Nat.lt_succ_self _) mi_psh_self rfl (by decide) (by decide) ?_
  rw [mi_set_psh]
  refine mi_blk okX9_told 3 (pc' := 82) (lv' := [(4, .int (nI 240)), (3, .int 0), (2, .ref h.1), (0, .ref M), (1, .int 4)]) (st' := [.ref M, .int 2, .ref (h.1 + 1), .ref (h.1 + 1)]) rfl ?_
  refine mi_getf okX9_told rfl fg_RX9_127 (show 6 ≤ _ by have := hw.1; omega) (Nat.lt_succ_of_lt (Nat.lt_succ_of_lt (show _ < h.1 by have := hw.1; omega))) ((mi_psh_lt (Nat.lt_succ_of_lt (show _ < h.1 by have := hw.1; omega))).trans ((mi_psh_lt (show _ < h.1 by have := hw.1; omega)).trans hc)) (v := .int 0) rfl ?_
  refine mo_ist okX9_told (j := 2) rfl (by have := hw.1; omega) (Nat.lt_succ_self _) mi_psh_self rfl (by decide) (by decide) ?_
  rw [mi_set_psh]
  refine mi_blk okX9_told 3 (pc' := 89) (lv' := [(4, .int (nI 240)), (3, .int 0), (2, .ref h.1), (0, .ref M), (1, .int 4)]) (st' := [.ref M, .int 3, .ref (h.1 + 1), .ref (h.1 + 1)]) rfl ?_
  refine mi_getf okX9_told rfl fg_RX9_28 (show 6 ≤ _ by have := hw.1; omega) (Nat.lt_succ_of_lt (Nat.lt_succ_of_lt (show _ < h.1 by have := hw.1; omega))) ((mi_psh_lt (Nat.lt_succ_of_lt (show _ < h.1 by have := hw.1; omega))).trans ((mi_psh_lt (show _ < h.1 by have := hw.1; omega)).trans hc)) (v := .int 4) rfl ?_
  refine mo_ist okX9_told (j := 3) rfl (by have := hw.1; omega) (Nat.lt_succ_self _) mi_psh_self rfl (by decide) (by decide) ?_
  rw [mi_set_psh]
  refine mi_blk okX9_told 3 (pc' := 96) (lv' := [(4, .int (nI 240)), (3, .int 0), (2, .ref h.1), (0, .ref M), (1, .int 4)]) (st' := [.int 0, .int 4, .ref (h.1 + 1), .ref (h.1 + 1)]) rfl ?_
  refine mo_ist okX9_told (j := 4) rfl (by have := hw.1; omega) (Nat.lt_succ_self _) mi_psh_self rfl (by decide) (by decide) ?_
  rw [mi_set_psh]
  refine mi_blk okX9_told 4 (pc' := 101) (lv' := [(4, .int (nI 240)), (3, .int 0), (2, .ref h.1), (0, .ref M), (1, .int 4)]) (st' := [.int 0, .ref h.1, .int 5, .ref (h.1 + 1), .ref (h.1 + 1)]) rfl ?_
  refine mo_ild okX9_told (j := 0) (v := 0) rfl (by have := hw.1; omega) (Nat.lt_succ_of_lt (Nat.lt_succ_self _)) ((mi_psh_lt (Nat.lt_succ_self _)).trans mi_psh_self) rfl (by decide) (by decide) rfl ?_
  refine mo_ist okX9_told (j := 5) rfl (by have := hw.1; omega) (Nat.lt_succ_self _) mi_psh_self rfl (by decide) (by decide) ?_
  rw [mi_set_psh]
  refine mi_blk okX9_told 4 (pc' := 108) (lv' := [(4, .int (nI 240)), (3, .int 0), (2, .ref h.1), (0, .ref M), (1, .int 4)]) (st' := [.int 1, .ref h.1, .int 6, .ref (h.1 + 1), .ref (h.1 + 1)]) rfl ?_
  refine mo_ild okX9_told (j := 1) (v := 0) rfl (by have := hw.1; omega) (Nat.lt_succ_of_lt (Nat.lt_succ_self _)) ((mi_psh_lt (Nat.lt_succ_self _)).trans mi_psh_self) rfl (by decide) (by decide) rfl ?_
  refine mo_ist okX9_told (j := 6) rfl (by have := hw.1; omega) (Nat.lt_succ_self _) mi_psh_self rfl (by decide) (by decide) ?_
  rw [mi_set_psh]
  refine mi_blk okX9_told 4 (pc' := 115) (lv' := [(4, .int (nI 240)), (3, .int 0), (2, .ref h.1), (0, .ref M), (1, .int 4)]) (st' := [.int 2, .ref h.1, .int 7, .ref (h.1 + 1), .ref (h.1 + 1)]) rfl ?_
  refine mo_ild okX9_told (j := 2) (v := 0) rfl (by have := hw.1; omega) (Nat.lt_succ_of_lt (Nat.lt_succ_self _)) ((mi_psh_lt (Nat.lt_succ_self _)).trans mi_psh_self) rfl (by decide) (by decide) rfl ?_
  refine mo_ist okX9_told (j := 7) rfl (by have := hw.1; omega) (Nat.lt_succ_self _) mi_psh_self rfl (by decide) (by decide) ?_
  rw [mi_set_psh]
  refine mi_blk okX9_told 3 (pc' := 121) (lv' := [(4, .int (nI 240)), (3, .int 0), (2, .ref h.1), (0, .ref M), (1, .int 4)]) (st' := [.ref M, .int 8, .ref (h.1 + 1), .ref (h.1 + 1)]) rfl ?_
  refine mi_getf okX9_told rfl fg_RX9_201 (show 6 ≤ _ by have := hw.1; omega) (Nat.lt_succ_of_lt (Nat.lt_succ_of_lt (show _ < h.1 by have := hw.1; omega))) ((mi_psh_lt (Nat.lt_succ_of_lt (show _ < h.1 by have := hw.1; omega))).trans ((mi_psh_lt (show _ < h.1 by have := hw.1; omega)).trans hc)) (v := .int 0) rfl ?_
  refine mo_ist okX9_told (j := 8) rfl (by have := hw.1; omega) (Nat.lt_succ_self _) mi_psh_self rfl (by decide) (by decide) ?_
  rw [mi_set_psh]
  refine mi_blk okX9_told 3 (pc' := 129) (lv' := [(4, .int (nI 240)), (3, .int 0), (2, .ref h.1), (0, .ref M), (1, .int 4)]) (st' := [.ref M, .int 9, .ref (h.1 + 1), .ref (h.1 + 1)]) rfl ?_
  refine mi_getf okX9_told rfl fg_RX9_214 (show 6 ≤ _ by have := hw.1; omega) (Nat.lt_succ_of_lt (Nat.lt_succ_of_lt (show _ < h.1 by have := hw.1; omega))) ((mi_psh_lt (Nat.lt_succ_of_lt (show _ < h.1 by have := hw.1; omega))).trans ((mi_psh_lt (show _ < h.1 by have := hw.1; omega)).trans hc)) (v := .int 0) rfl ?_
  refine mo_ist okX9_told (j := 9) rfl (by have := hw.1; omega) (Nat.lt_succ_self _) mi_psh_self rfl (by decide) (by decide) ?_
  rw [mi_set_psh]
  refine mi_blk okX9_told 3 (pc' := 137) (lv' := [(4, .int (nI 240)), (3, .int 0), (2, .ref h.1), (0, .ref M), (1, .int 4)]) (st' := [.ref M, .int 10, .ref (h.1 + 1), .ref (h.1 + 1)]) rfl ?_
  refine mi_getf okX9_told rfl fg_RX9_120 (show 6 ≤ _ by have := hw.1; omega) (Nat.lt_succ_of_lt (Nat.lt_succ_of_lt (show _ < h.1 by have := hw.1; omega))) ((mi_psh_lt (Nat.lt_succ_of_lt (show _ < h.1 by have := hw.1; omega))).trans ((mi_psh_lt (show _ < h.1 by have := hw.1; omega)).trans hc)) (v := .int 0) rfl ?_
  refine mi_callS okX9_told (mc := 0) (ms := 0) (mc' := 0) (ms' := 0) (As := [.int 0]) (st := [.int 10, .ref (h.1 + 1), .ref (h.1 + 1)]) rfl cs_RX9_217 rfl (by decide) (Nat.le_of_ble_eq_true rfl) m_one_0 (fun r h1 q => ?_)
  obtain ⟨rfl, e9⟩ := q; have e9 := e9.symm; subst e9
  change mi_WX _ pP X kX9_told 3 0 0 143 [(4, .int (nI 240)), (3, .int 0), (2, .ref h.1), (0, .ref M), (1, .int 4)] [.int 0, .int 10, .ref (h.1 + 1), .ref (h.1 + 1)] (mi_psh (mi_psh h (.inl (0, 3, .inl (fun _ => 0)))) (.inl (0, 13, .inl (va_up (va_up (va_up (va_up (va_up (va_up (va_up (va_up (va_up (va_up (fun _ => 0) 0 0) 1 0) 2 0) 3 4) 4 0) 5 0) 6 0) 7 0) 8 0) 9 0)))) _
  refine mo_ist okX9_told (j := 10) rfl (by have := hw.1; omega) (Nat.lt_succ_self _) mi_psh_self rfl (by decide) (by decide) ?_
  rw [mi_set_psh]
  refine mi_blk okX9_told 3 (pc' := 148) (lv' := [(4, .int (nI 240)), (3, .int 0), (2, .ref h.1), (0, .ref M), (1, .int 4)]) (st' := [.ref M, .int 11, .ref (h.1 + 1), .ref (h.1 + 1)]) rfl ?_
  refine mi_getf okX9_told rfl fg_RX9_181 (show 6 ≤ _ by have := hw.1; omega) (Nat.lt_succ_of_lt (Nat.lt_succ_of_lt (show _ < h.1 by have := hw.1; omega))) ((mi_psh_lt (Nat.lt_succ_of_lt (show _ < h.1 by have := hw.1; omega))).trans ((mi_psh_lt (show _ < h.1 by have := hw.1; omega)).trans hc)) (v := .int 0) rfl ?_
  refine mo_ist okX9_told (j := 11) rfl (by have := hw.1; omega) (Nat.lt_succ_self _) mi_psh_self rfl (by decide) (by decide) ?_
  rw [mi_set_psh]
  refine mi_blk okX9_told 3 (pc' := 156) (lv' := [(4, .int (nI 240)), (3, .int 0), (2, .ref h.1), (0, .ref M), (1, .int 4)]) (st' := [.ref M, .int 12, .ref (h.1 + 1), .ref (h.1 + 1)]) rfl ?_
  refine mi_getf okX9_told rfl fg_RX9_178 (show 6 ≤ _ by have := hw.1; omega) (Nat.lt_succ_of_lt (Nat.lt_succ_of_lt (show _ < h.1 by have := hw.1; omega))) ((mi_psh_lt (Nat.lt_succ_of_lt (show _ < h.1 by have := hw.1; omega))).trans ((mi_psh_lt (show _ < h.1 by have := hw.1; omega)).trans hc)) (v := .int 0) rfl ?_
  refine mi_callS okX9_told (mc := 0) (ms := 0) (mc' := 0) (ms' := 0) (As := [.int 0]) (st := [.int 12, .ref (h.1 + 1), .ref (h.1 + 1)]) rfl cs_RX9_217 rfl (by decide) (Nat.le_of_ble_eq_true rfl) m_one_0 (fun r h1 q => ?_)
  obtain ⟨rfl, e9⟩ := q; have e9 := e9.symm; subst e9
  change mi_WX _ pP X kX9_told 3 0 0 162 [(4, .int (nI 240)), (3, .int 0), (2, .ref h.1), (0, .ref M), (1, .int 4)] [.int 0, .int 12, .ref (h.1 + 1), .ref (h.1 + 1)] (mi_psh (mi_psh h (.inl (0, 3, .inl (fun _ => 0)))) (.inl (0, 13, .inl (va_up (va_up (va_up (va_up (va_up (va_up (va_up (va_up (va_up (va_up (va_up (va_up (fun _ => 0) 0 0) 1 0) 2 0) 3 4) 4 0) 5 0) 6 0) 7 0) 8 0) 9 0) 10 0) 11 0)))) _
  refine mo_ist okX9_told (j := 12) rfl (by have := hw.1; omega) (Nat.lt_succ_self _) mi_psh_self rfl (by decide) (by decide) ?_
  rw [mi_set_psh]
  refine mi_blk okX9_told 3 (pc' := 168) (lv' := [(4, .ref (h.1 + 1)), (3, .int 0), (2, .ref h.1), (0, .ref M), (1, .int 4)]) (st' := [.int 4, .ref (h.1 + 1)]) rfl ?_
  refine mo_ild okX9_told (j := 4) (v := 0) rfl (by have := hw.1; omega) (Nat.lt_succ_self _) mi_psh_self rfl (by decide) (by decide) rfl ?_
  exact mi_ret_i okX9_told rfl rfl rfl ⟨rfl, (tp.rf.psh _).psh _⟩
set_option maxHeartbeats 4000000 in
set_option maxRecDepth 100000 in
theorem m_told_5 {X : mi_X} {h : mi_H} {M : Nat} (hw : mo_W M h) {th : Int32} (hc : h.2 M = mo_c M th mo_0) : mi_S pP X kX9_told 3 [.ref M, .int 5] h 2 16 (fun r h1 => r = some (.int 0) ∧ tp h h1) := by
  refine enX9_told (Nat.le_of_ble_eq_true rfl) ?_
  refine mi_blk okX9_told 1 (pc' := 1) (lv' := [(0, .ref M), (1, .int 5)]) (st' := [.int 3]) rfl ?_
  refine mi_newa okX9_told (mc := 1) (ms := 13) (t := 0) (N := 3) (z := .inl (fun _ => 0)) rfl rfl ac_int (by decide) (by decide) (by decide) (fun _ => rfl) (fun _ => rfl) ?_
  change mi_WX _ pP X kX9_told 3 1 13 3 [(0, .ref M), (1, .int 5)] [.ref h.1] (mi_psh h (.inl (0, 3, .inl (fun _ => 0)))) _
  refine mi_blk okX9_told 5 (pc' := 9) (lv' := [(4, .int 0), (3, .int 0), (2, .ref h.1), (0, .ref M), (1, .int 5)]) (st' := []) rfl ?_
  change mi_WX _ pP X kX9_told 3 1 13 9 [(4, .int (nI 0)), (3, .int 0), (2, .ref h.1), (0, .ref M), (1, .int 5)] [] (mi_psh h (.inl (0, 3, .inl (fun _ => 0)))) _
  refine l_told (hw.psh _) ((mi_psh_lt (show _ < h.1 by have := hw.1; omega)).trans hc) (by decide) (by decide) ?_ 240 0 rfl
  refine mi_blk okX9_told 1 (pc' := 60) (lv' := [(4, .int (nI 240)), (3, .int 0), (2, .ref h.1), (0, .ref M), (1, .int 5)]) (st' := [.int 13]) rfl ?_
  refine mi_newa okX9_told (mc := 0) (ms := 0) (t := 0) (N := 13) (z := .inl (fun _ => 0)) rfl rfl ac_int (by decide) (by decide) (by decide) (fun _ => rfl) (fun _ => rfl) ?_
  change mi_WX _ pP X kX9_told 3 0 0 62 [(4, .int (nI 240)), (3, .int 0), (2, .ref h.1), (0, .ref M), (1, .int 5)] [.ref (h.1 + 1)] (mi_psh (mi_psh h (.inl (0, 3, .inl (fun _ => 0)))) (.inl (0, 13, .inl (fun _ => 0)))) _
  refine mi_blk okX9_told 3 (pc' := 65) (lv' := [(4, .int (nI 240)), (3, .int 0), (2, .ref h.1), (0, .ref M), (1, .int 5)]) (st' := [.ref M, .int 0, .ref (h.1 + 1), .ref (h.1 + 1)]) rfl ?_
  refine mi_getf okX9_told rfl fg_RX9_124 (show 6 ≤ _ by have := hw.1; omega) (Nat.lt_succ_of_lt (Nat.lt_succ_of_lt (show _ < h.1 by have := hw.1; omega))) ((mi_psh_lt (Nat.lt_succ_of_lt (show _ < h.1 by have := hw.1; omega))).trans ((mi_psh_lt (show _ < h.1 by have := hw.1; omega)).trans hc)) (v := .int 0) rfl ?_
  refine mo_ist okX9_told (j := 0) rfl (by have := hw.1; omega) (Nat.lt_succ_self _) mi_psh_self rfl (by decide) (by decide) ?_
  rw [mi_set_psh]
  refine mi_blk okX9_told 3 (pc' := 72) (lv' := [(4, .int (nI 240)), (3, .int 0), (2, .ref h.1), (0, .ref M), (1, .int 5)]) (st' := [.ref M, .int 1, .ref (h.1 + 1), .ref (h.1 + 1)]) rfl ?_
  refine mi_getf okX9_told rfl fg_RX9_21 (show 6 ≤ _ by have := hw.1; omega) (Nat.lt_succ_of_lt (Nat.lt_succ_of_lt (show _ < h.1 by have := hw.1; omega))) ((mi_psh_lt (Nat.lt_succ_of_lt (show _ < h.1 by have := hw.1; omega))).trans ((mi_psh_lt (show _ < h.1 by have := hw.1; omega)).trans hc)) (v := .ref (M + 3)) rfl ?_
  refine mi_callV okX9_told (mc := 0) (ms := 0) (mc' := 0) (ms' := 0) (b := (M + 3)) (As := []) (st := [.int 1, .ref (h.1 + 1), .ref (h.1 + 1)]) rfl cv_RX9_42 rfl (by decide) (show 6 ≤ _ by have := hw.1; omega) (Nat.lt_succ_of_lt (Nat.lt_succ_of_lt (show _ < h.1 by have := hw.1; omega))) ((mi_psh_lt (Nat.lt_succ_of_lt (show _ < h.1 by have := hw.1; omega))).trans ((mi_psh_lt (show _ < h.1 by have := hw.1; omega)).trans hw.2.2.1)) rfl (Nat.le_of_ble_eq_true rfl) (m_size (show 6 ≤ _ by have := hw.1; omega) (Nat.lt_succ_of_lt (Nat.lt_succ_of_lt (show _ < h.1 by have := hw.1; omega))) ((mi_psh_lt (Nat.lt_succ_of_lt (show _ < h.1 by have := hw.1; omega))).trans ((mi_psh_lt (show _ < h.1 by have := hw.1; omega)).trans hw.2.2.1))) (fun r h1 q => ?_)
  obtain ⟨rfl, e9⟩ := q; have e9 := e9.symm; subst e9
  change mi_WX _ pP X kX9_told 3 0 0 78 [(4, .int (nI 240)), (3, .int 0), (2, .ref h.1), (0, .ref M), (1, .int 5)] [.int 0, .int 1, .ref (h.1 + 1), .ref (h.1 + 1)] (mi_psh (mi_psh h (.inl (0, 3, .inl (fun _ => 0)))) (.inl (0, 13, .inl (va_up (fun _ => 0) 0 0)))) _
  refine mo_ist okX9_told (j := 1) rfl (by have := hw.1; omega) (Nat.lt_succ_self _) mi_psh_self rfl (by decide) (by decide) ?_
  rw [mi_set_psh]
  refine mi_blk okX9_told 3 (pc' := 82) (lv' := [(4, .int (nI 240)), (3, .int 0), (2, .ref h.1), (0, .ref M), (1, .int 5)]) (st' := [.ref M, .int 2, .ref (h.1 + 1), .ref (h.1 + 1)]) rfl ?_
  refine mi_getf okX9_told rfl fg_RX9_127 (show 6 ≤ _ by have := hw.1; omega) (Nat.lt_succ_of_lt (Nat.lt_succ_of_lt (show _ < h.1 by have := hw.1; omega))) ((mi_psh_lt (Nat.lt_succ_of_lt (show _ < h.1 by have := hw.1; omega))).trans ((mi_psh_lt (show _ < h.1 by have := hw.1; omega)).trans hc)) (v := .int 0) rfl ?_
  refine mo_ist okX9_told (j := 2) rfl (by have := hw.1; omega) (Nat.lt_succ_self _) mi_psh_self rfl (by decide) (by decide) ?_
  rw [mi_set_psh]
  refine mi_blk okX9_told 3 (pc' := 89) (lv' := [(4, .int (nI 240)), (3, .int 0), (2, .ref h.1), (0, .ref M), (1, .int 5)]) (st' := [.ref M, .int 3, .ref (h.1 + 1), .ref (h.1 + 1)]) rfl ?_
  refine mi_getf okX9_told rfl fg_RX9_28 (show 6 ≤ _ by have := hw.1; omega) (Nat.lt_succ_of_lt (Nat.lt_succ_of_lt (show _ < h.1 by have := hw.1; omega))) ((mi_psh_lt (Nat.lt_succ_of_lt (show _ < h.1 by have := hw.1; omega))).trans ((mi_psh_lt (show _ < h.1 by have := hw.1; omega)).trans hc)) (v := .int 4) rfl ?_
  refine mo_ist okX9_told (j := 3) rfl (by have := hw.1; omega) (Nat.lt_succ_self _) mi_psh_self rfl (by decide) (by decide) ?_
  rw [mi_set_psh]
  refine mi_blk okX9_told 3 (pc' := 96) (lv' := [(4, .int (nI 240)), (3, .int 0), (2, .ref h.1), (0, .ref M), (1, .int 5)]) (st' := [.int 0, .int 4, .ref (h.1 + 1), .ref (h.1 + 1)]) rfl ?_
  refine mo_ist okX9_told (j := 4) rfl (by have := hw.1; omega) (Nat.lt_succ_self _) mi_psh_self rfl (by decide) (by decide) ?_
  rw [mi_set_psh]
  refine mi_blk okX9_told 4 (pc' := 101) (lv' := [(4, .int (nI 240)), (3, .int 0), (2, .ref h.1), (0, .ref M), (1, .int 5)]) (st' := [.int 0, .ref h.1, .int 5, .ref (h.1 + 1), .ref (h.1 + 1)]) rfl ?_
  refine mo_ild okX9_told (j := 0) (v := 0) rfl (by have := hw.1; omega) (Nat.lt_succ_of_lt (Nat.lt_succ_self _)) ((mi_psh_lt (Nat.lt_succ_self _)).trans mi_psh_self) rfl (by decide) (by decide) rfl ?_
  refine mo_ist okX9_told (j := 5) rfl (by have := hw.1; omega) (Nat.lt_succ_self _) mi_psh_self rfl (by decide) (by decide) ?_
  rw [mi_set_psh]
  refine mi_blk okX9_told 4 (pc' := 108) (lv' := [(4, .int (nI 240)), (3, .int 0), (2, .ref h.1), (0, .ref M), (1, .int 5)]) (st' := [.int 1, .ref h.1, .int 6, .ref (h.1 + 1), .ref (h.1 + 1)]) rfl ?_
  refine mo_ild okX9_told (j := 1) (v := 0) rfl (by have := hw.1; omega) (Nat.lt_succ_of_lt (Nat.lt_succ_self _)) ((mi_psh_lt (Nat.lt_succ_self _)).trans mi_psh_self) rfl (by decide) (by decide) rfl ?_
  refine mo_ist okX9_told (j := 6) rfl (by have := hw.1; omega) (Nat.lt_succ_self _) mi_psh_self rfl (by decide) (by decide) ?_
  rw [mi_set_psh]
  refine mi_blk okX9_told 4 (pc' := 115) (lv' := [(4, .int (nI 240)), (3, .int 0), (2, .ref h.1), (0, .ref M), (1, .int 5)]) (st' := [.int 2, .ref h.1, .int 7, .ref (h.1 + 1), .ref (h.1 + 1)]) rfl ?_
  refine mo_ild okX9_told (j := 2) (v := 0) rfl (by have := hw.1; omega) (Nat.lt_succ_of_lt (Nat.lt_succ_self _)) ((mi_psh_lt (Nat.lt_succ_self _)).trans mi_psh_self) rfl (by decide) (by decide) rfl ?_
  refine mo_ist okX9_told (j := 7) rfl (by have := hw.1; omega) (Nat.lt_succ_self _) mi_psh_self rfl (by decide) (by decide) ?_
  rw [mi_set_psh]
  refine mi_blk okX9_told 3 (pc' := 121) (lv' := [(4, .int (nI 240)), (3, .int 0), (2, .ref h.1), (0, .ref M), (1, .int 5)]) (st' := [.ref M, .int 8, .ref (h.1 + 1), .ref (h.1 + 1)]) rfl ?_
  refine mi_getf okX9_told rfl fg_RX9_201 (show 6 ≤ _ by have := hw.1; omega) (Nat.lt_succ_of_lt (Nat.lt_succ_of_lt (show _ < h.1 by have := hw.1; omega))) ((mi_psh_lt (Nat.lt_succ_of_lt (show _ < h.1 by have := hw.1; omega))).trans ((mi_psh_lt (show _ < h.1 by have := hw.1; omega)).trans hc)) (v := .int 0) rfl ?_
  refine mo_ist okX9_told (j := 8) rfl (by have := hw.1; omega) (Nat.lt_succ_self _) mi_psh_self rfl (by decide) (by decide) ?_
  rw [mi_set_psh]
  refine mi_blk okX9_told 3 (pc' := 129) (lv' := [(4, .int (nI 240)), (3, .int 0), (2, .ref h.1), (0, .ref M), (1, .int 5)]) (st' := [.ref M, .int 9, .ref (h.1 + 1), .ref (h.1 + 1)]) rfl ?_
  refine mi_getf okX9_told rfl fg_RX9_214 (show 6 ≤ _ by have := hw.1; omega) (Nat.lt_succ_of_lt (Nat.lt_succ_of_lt (show _ < h.1 by have := hw.1; omega))) ((mi_psh_lt (Nat.lt_succ_of_lt (show _ < h.1 by have := hw.1; omega))).trans ((mi_psh_lt (show _ < h.1 by have := hw.1; omega)).trans hc)) (v := .int 0) rfl ?_
  refine mo_ist okX9_told (j := 9) rfl (by have := hw.1; omega) (Nat.lt_succ_self _) mi_psh_self rfl (by decide) (by decide) ?_
  rw [mi_set_psh]
  refine mi_blk okX9_told 3 (pc' := 137) (lv' := [(4, .int (nI 240)), (3, .int 0), (2, .ref h.1), (0, .ref M), (1, .int 5)]) (st' := [.ref M, .int 10, .ref (h.1 + 1), .ref (h.1 + 1)]) rfl ?_
  refine mi_getf okX9_told rfl fg_RX9_120 (show 6 ≤ _ by have := hw.1; omega) (Nat.lt_succ_of_lt (Nat.lt_succ_of_lt (show _ < h.1 by have := hw.1; omega))) ((mi_psh_lt (Nat.lt_succ_of_lt (show _ < h.1 by have := hw.1; omega))).trans ((mi_psh_lt (show _ < h.1 by have := hw.1; omega)).trans hc)) (v := .int 0) rfl ?_
  refine mi_callS okX9_told (mc := 0) (ms := 0) (mc' := 0) (ms' := 0) (As := [.int 0]) (st := [.int 10, .ref (h.1 + 1), .ref (h.1 + 1)]) rfl cs_RX9_217 rfl (by decide) (Nat.le_of_ble_eq_true rfl) m_one_0 (fun r h1 q => ?_)
  obtain ⟨rfl, e9⟩ := q; have e9 := e9.symm; subst e9
  change mi_WX _ pP X kX9_told 3 0 0 143 [(4, .int (nI 240)), (3, .int 0), (2, .ref h.1), (0, .ref M), (1, .int 5)] [.int 0, .int 10, .ref (h.1 + 1), .ref (h.1 + 1)] (mi_psh (mi_psh h (.inl (0, 3, .inl (fun _ => 0)))) (.inl (0, 13, .inl (va_up (va_up (va_up (va_up (va_up (va_up (va_up (va_up (va_up (va_up (fun _ => 0) 0 0) 1 0) 2 0) 3 4) 4 0) 5 0) 6 0) 7 0) 8 0) 9 0)))) _
  refine mo_ist okX9_told (j := 10) rfl (by have := hw.1; omega) (Nat.lt_succ_self _) mi_psh_self rfl (by decide) (by decide) ?_
  rw [mi_set_psh]
  refine mi_blk okX9_told 3 (pc' := 148) (lv' := [(4, .int (nI 240)), (3, .int 0), (2, .ref h.1), (0, .ref M), (1, .int 5)]) (st' := [.ref M, .int 11, .ref (h.1 + 1), .ref (h.1 + 1)]) rfl ?_
  refine mi_getf okX9_told rfl fg_RX9_181 (show 6 ≤ _ by have := hw.1; omega) (Nat.lt_succ_of_lt (Nat.lt_succ_of_lt (show _ < h.1 by have := hw.1; omega))) ((mi_psh_lt (Nat.lt_succ_of_lt (show _ < h.1 by have := hw.1; omega))).trans ((mi_psh_lt (show _ < h.1 by have := hw.1; omega)).trans hc)) (v := .int 0) rfl ?_
  refine mo_ist okX9_told (j := 11) rfl (by have := hw.1; omega) (Nat.lt_succ_self _) mi_psh_self rfl (by decide) (by decide) ?_
  rw [mi_set_psh]
  refine mi_blk okX9_told 3 (pc' := 156) (lv' := [(4, .int (nI 240)), (3, .int 0), (2, .ref h.1), (0, .ref M), (1, .int 5)]) (st' := [.ref M, .int 12, .ref (h.1 + 1), .ref (h.1 + 1)]) rfl ?_
  refine mi_getf okX9_told rfl fg_RX9_178 (show 6 ≤ _ by have := hw.1; omega) (Nat.lt_succ_of_lt (Nat.lt_succ_of_lt (show _ < h.1 by have := hw.1; omega))) ((mi_psh_lt (Nat.lt_succ_of_lt (show _ < h.1 by have := hw.1; omega))).trans ((mi_psh_lt (show _ < h.1 by have := hw.1; omega)).trans hc)) (v := .int 0) rfl ?_
  refine mi_callS okX9_told (mc := 0) (ms := 0) (mc' := 0) (ms' := 0) (As := [.int 0]) (st := [.int 12, .ref (h.1 + 1), .ref (h.1 + 1)]) rfl cs_RX9_217 rfl (by decide) (Nat.le_of_ble_eq_true rfl) m_one_0 (fun r h1 q => ?_)
  obtain ⟨rfl, e9⟩ := q; have e9 := e9.symm; subst e9
  change mi_WX _ pP X kX9_told 3 0 0 162 [(4, .int (nI 240)), (3, .int 0), (2, .ref h.1), (0, .ref M), (1, .int 5)] [.int 0, .int 12, .ref (h.1 + 1), .ref (h.1 + 1)] (mi_psh (mi_psh h (.inl (0, 3, .inl (fun _ => 0)))) (.inl (0, 13, .inl (va_up (va_up (va_up (va_up (va_up (va_up (va_up (va_up (va_up (va_up (va_up (va_up (fun _ => 0) 0 0) 1 0) 2 0) 3 4) 4 0) 5 0) 6 0) 7 0) 8 0) 9 0) 10 0) 11 0)))) _
  refine mo_ist okX9_told (j := 12) rfl (by have := hw.1; omega) (Nat.lt_succ_self _) mi_psh_self rfl (by decide) (by decide) ?_
  rw [mi_set_psh]
  refine mi_blk okX9_told 3 (pc' := 168) (lv' := [(4, .ref (h.1 + 1)), (3, .int 0), (2, .ref h.1), (0, .ref M), (1, .int 5)]) (st' := [.int 5, .ref (h.1 + 1)]) rfl ?_
  refine mo_ild okX9_told (j := 5) (v := 0) rfl (by have := hw.1; omega) (Nat.lt_succ_self _) mi_psh_self rfl (by decide) (by decide) rfl ?_
  exact mi_ret_i okX9_told rfl rfl rfl ⟨rfl, (tp.rf.psh _).psh _⟩
set_option maxHeartbeats 4000000 in
set_option maxRecDepth 100000 in
theorem m_told_6 {X : mi_X} {h : mi_H} {M : Nat} (hw : mo_W M h) {th : Int32} (hc : h.2 M = mo_c M th mo_0) : mi_S pP X kX9_told 3 [.ref M, .int 6] h 2 16 (fun r h1 => r = some (.int 0) ∧ tp h h1) := by
  refine enX9_told (Nat.le_of_ble_eq_true rfl) ?_
  refine mi_blk okX9_told 1 (pc' := 1) (lv' := [(0, .ref M), (1, .int 6)]) (st' := [.int 3]) rfl ?_
  refine mi_newa okX9_told (mc := 1) (ms := 13) (t := 0) (N := 3) (z := .inl (fun _ => 0)) rfl rfl ac_int (by decide) (by decide) (by decide) (fun _ => rfl) (fun _ => rfl) ?_
  change mi_WX _ pP X kX9_told 3 1 13 3 [(0, .ref M), (1, .int 6)] [.ref h.1] (mi_psh h (.inl (0, 3, .inl (fun _ => 0)))) _
  refine mi_blk okX9_told 5 (pc' := 9) (lv' := [(4, .int 0), (3, .int 0), (2, .ref h.1), (0, .ref M), (1, .int 6)]) (st' := []) rfl ?_
  change mi_WX _ pP X kX9_told 3 1 13 9 [(4, .int (nI 0)), (3, .int 0), (2, .ref h.1), (0, .ref M), (1, .int 6)] [] (mi_psh h (.inl (0, 3, .inl (fun _ => 0)))) _
  refine l_told (hw.psh _) ((mi_psh_lt (show _ < h.1 by have := hw.1; omega)).trans hc) (by decide) (by decide) ?_ 240 0 rfl
  refine mi_blk okX9_told 1 (pc' := 60) (lv' := [(4, .int (nI 240)), (3, .int 0), (2, .ref h.1), (0, .ref M), (1, .int 6)]) (st' := [.int 13]) rfl ?_
  refine mi_newa okX9_told (mc := 0) (ms := 0) (t := 0) (N := 13) (z := .inl (fun _ => 0)) rfl rfl ac_int (by decide) (by decide) (by decide) (fun _ => rfl) (fun _ => rfl) ?_
  change mi_WX _ pP X kX9_told 3 0 0 62 [(4, .int (nI 240)), (3, .int 0), (2, .ref h.1), (0, .ref M), (1, .int 6)] [.ref (h.1 + 1)] (mi_psh (mi_psh h (.inl (0, 3, .inl (fun _ => 0)))) (.inl (0, 13, .inl (fun _ => 0)))) _
  refine mi_blk okX9_told 3 (pc' := 65) (lv' := [(4, .int (nI 240)), (3, .int 0), (2, .ref h.1), (0, .ref M), (1, .int 6)]) (st' := [.ref M, .int 0, .ref (h.1 + 1), .ref (h.1 + 1)]) rfl ?_
  refine mi_getf okX9_told rfl fg_RX9_124 (show 6 ≤ _ by have := hw.1; omega) (Nat.lt_succ_of_lt (Nat.lt_succ_of_lt (show _ < h.1 by have := hw.1; omega))) ((mi_psh_lt (Nat.lt_succ_of_lt (show _ < h.1 by have := hw.1; omega))).trans ((mi_psh_lt (show _ < h.1 by have := hw.1; omega)).trans hc)) (v := .int 0) rfl ?_
  refine mo_ist okX9_told (j := 0) rfl (by have := hw.1; omega) (Nat.lt_succ_self _) mi_psh_self rfl (by decide) (by decide) ?_
  rw [mi_set_psh]
  refine mi_blk okX9_told 3 (pc' := 72) (lv' := [(4, .int (nI 240)), (3, .int 0), (2, .ref h.1), (0, .ref M), (1, .int 6)]) (st' := [.ref M, .int 1, .ref (h.1 + 1), .ref (h.1 + 1)]) rfl ?_
  refine mi_getf okX9_told rfl fg_RX9_21 (show 6 ≤ _ by have := hw.1; omega) (Nat.lt_succ_of_lt (Nat.lt_succ_of_lt (show _ < h.1 by have := hw.1; omega))) ((mi_psh_lt (Nat.lt_succ_of_lt (show _ < h.1 by have := hw.1; omega))).trans ((mi_psh_lt (show _ < h.1 by have := hw.1; omega)).trans hc)) (v := .ref (M + 3)) rfl ?_
  refine mi_callV okX9_told (mc := 0) (ms := 0) (mc' := 0) (ms' := 0) (b := (M + 3)) (As := []) (st := [.int 1, .ref (h.1 + 1), .ref (h.1 + 1)]) rfl cv_RX9_42 rfl (by decide) (show 6 ≤ _ by have := hw.1; omega) (Nat.lt_succ_of_lt (Nat.lt_succ_of_lt (show _ < h.1 by have := hw.1; omega))) ((mi_psh_lt (Nat.lt_succ_of_lt (show _ < h.1 by have := hw.1; omega))).trans ((mi_psh_lt (show _ < h.1 by have := hw.1; omega)).trans hw.2.2.1)) rfl (Nat.le_of_ble_eq_true rfl) (m_size (show 6 ≤ _ by have := hw.1; omega) (Nat.lt_succ_of_lt (Nat.lt_succ_of_lt (show _ < h.1 by have := hw.1; omega))) ((mi_psh_lt (Nat.lt_succ_of_lt (show _ < h.1 by have := hw.1; omega))).trans ((mi_psh_lt (show _ < h.1 by have := hw.1; omega)).trans hw.2.2.1))) (fun r h1 q => ?_)
  obtain ⟨rfl, e9⟩ := q; have e9 := e9.symm; subst e9
  change mi_WX _ pP X kX9_told 3 0 0 78 [(4, .int (nI 240)), (3, .int 0), (2, .ref h.1), (0, .ref M), (1, .int 6)] [.int 0, .int 1, .ref (h.1 + 1), .ref (h.1 + 1)] (mi_psh (mi_psh h (.inl (0, 3, .inl (fun _ => 0)))) (.inl (0, 13, .inl (va_up (fun _ => 0) 0 0)))) _
  refine mo_ist okX9_told (j := 1) rfl (by have := hw.1; omega) (Nat.lt_succ_self _) mi_psh_self rfl (by decide) (by decide) ?_
  rw [mi_set_psh]
  refine mi_blk okX9_told 3 (pc' := 82) (lv' := [(4, .int (nI 240)), (3, .int 0), (2, .ref h.1), (0, .ref M), (1, .int 6)]) (st' := [.ref M, .int 2, .ref (h.1 + 1), .ref (h.1 + 1)]) rfl ?_
  refine mi_getf okX9_told rfl fg_RX9_127 (show 6 ≤ _ by have := hw.1; omega) (Nat.lt_succ_of_lt (Nat.lt_succ_of_lt (show _ < h.1 by have := hw.1; omega))) ((mi_psh_lt (Nat.lt_succ_of_lt (show _ < h.1 by have := hw.1; omega))).trans ((mi_psh_lt (show _ < h.1 by have := hw.1; omega)).trans hc)) (v := .int 0) rfl ?_
  refine mo_ist okX9_told (j := 2) rfl (by have := hw.1; omega) (Nat.lt_succ_self _) mi_psh_self rfl (by decide) (by decide) ?_
  rw [mi_set_psh]
  refine mi_blk okX9_told 3 (pc' := 89) (lv' := [(4, .int (nI 240)), (3, .int 0), (2, .ref h.1), (0, .ref M), (1, .int 6)]) (st' := [.ref M, .int 3, .ref (h.1 + 1), .ref (h.1 + 1)]) rfl ?_
  refine mi_getf okX9_told rfl fg_RX9_28 (show 6 ≤ _ by have := hw.1; omega) (Nat.lt_succ_of_lt (Nat.lt_succ_of_lt (show _ < h.1 by have := hw.1; omega))) ((mi_psh_lt (Nat.lt_succ_of_lt (show _ < h.1 by have := hw.1; omega))).trans ((mi_psh_lt (show _ < h.1 by have := hw.1; omega)).trans hc)) (v := .int 4) rfl ?_
  refine mo_ist okX9_told (j := 3) rfl (by have := hw.1; omega) (Nat.lt_succ_self _) mi_psh_self rfl (by decide) (by decide) ?_
  rw [mi_set_psh]
  refine mi_blk okX9_told 3 (pc' := 96) (lv' := [(4, .int (nI 240)), (3, .int 0), (2, .ref h.1), (0, .ref M), (1, .int 6)]) (st' := [.int 0, .int 4, .ref (h.1 + 1), .ref (h.1 + 1)]) rfl ?_
  refine mo_ist okX9_told (j := 4) rfl (by have := hw.1; omega) (Nat.lt_succ_self _) mi_psh_self rfl (by decide) (by decide) ?_
  rw [mi_set_psh]
  refine mi_blk okX9_told 4 (pc' := 101) (lv' := [(4, .int (nI 240)), (3, .int 0), (2, .ref h.1), (0, .ref M), (1, .int 6)]) (st' := [.int 0, .ref h.1, .int 5, .ref (h.1 + 1), .ref (h.1 + 1)]) rfl ?_
  refine mo_ild okX9_told (j := 0) (v := 0) rfl (by have := hw.1; omega) (Nat.lt_succ_of_lt (Nat.lt_succ_self _)) ((mi_psh_lt (Nat.lt_succ_self _)).trans mi_psh_self) rfl (by decide) (by decide) rfl ?_
  refine mo_ist okX9_told (j := 5) rfl (by have := hw.1; omega) (Nat.lt_succ_self _) mi_psh_self rfl (by decide) (by decide) ?_
  rw [mi_set_psh]
  refine mi_blk okX9_told 4 (pc' := 108) (lv' := [(4, .int (nI 240)), (3, .int 0), (2, .ref h.1), (0, .ref M), (1, .int 6)]) (st' := [.int 1, .ref h.1, .int 6, .ref (h.1 + 1), .ref (h.1 + 1)]) rfl ?_
  refine mo_ild okX9_told (j := 1) (v := 0) rfl (by have := hw.1; omega) (Nat.lt_succ_of_lt (Nat.lt_succ_self _)) ((mi_psh_lt (Nat.lt_succ_self _)).trans mi_psh_self) rfl (by decide) (by decide) rfl ?_
  refine mo_ist okX9_told (j := 6) rfl (by have := hw.1; omega) (Nat.lt_succ_self _) mi_psh_self rfl (by decide) (by decide) ?_
  rw [mi_set_psh]
  refine mi_blk okX9_told 4 (pc' := 115) (lv' := [(4, .int (nI 240)), (3, .int 0), (2, .ref h.1), (0, .ref M), (1, .int 6)]) (st' := [.int 2, .ref h.1, .int 7, .ref (h.1 + 1), .ref (h.1 + 1)]) rfl ?_
  refine mo_ild okX9_told (j := 2) (v := 0) rfl (by have := hw.1; omega) (Nat.lt_succ_of_lt (Nat.lt_succ_self _)) ((mi_psh_lt (Nat.lt_succ_self _)).trans mi_psh_self) rfl (by decide) (by decide) rfl ?_
  refine mo_ist okX9_told (j := 7) rfl (by have := hw.1; omega) (Nat.lt_succ_self _) mi_psh_self rfl (by decide) (by decide) ?_
  rw [mi_set_psh]
  refine mi_blk okX9_told 3 (pc' := 121) (lv' := [(4, .int (nI 240)), (3, .int 0), (2, .ref h.1), (0, .ref M), (1, .int 6)]) (st' := [.ref M, .int 8, .ref (h.1 + 1), .ref (h.1 + 1)]) rfl ?_
  refine mi_getf okX9_told rfl fg_RX9_201 (show 6 ≤ _ by have := hw.1; omega) (Nat.lt_succ_of_lt (Nat.lt_succ_of_lt (show _ < h.1 by have := hw.1; omega))) ((mi_psh_lt (Nat.lt_succ_of_lt (show _ < h.1 by have := hw.1; omega))).trans ((mi_psh_lt (show _ < h.1 by have := hw.1; omega)).trans hc)) (v := .int 0) rfl ?_
  refine mo_ist okX9_told (j := 8) rfl (by have := hw.1; omega) (Nat.lt_succ_self _) mi_psh_self rfl (by decide) (by decide) ?_
  rw [mi_set_psh]
  refine mi_blk okX9_told 3 (pc' := 129) (lv' := [(4, .int (nI 240)), (3, .int 0), (2, .ref h.1), (0, .ref M), (1, .int 6)]) (st' := [.ref M, .int 9, .ref (h.1 + 1), .ref (h.1 + 1)]) rfl ?_
  refine mi_getf okX9_told rfl fg_RX9_214 (show 6 ≤ _ by have := hw.1; omega) (Nat.lt_succ_of_lt (Nat.lt_succ_of_lt (show _ < h.1 by have := hw.1; omega))) ((mi_psh_lt (Nat.lt_succ_of_lt (show _ < h.1 by have := hw.1; omega))).trans ((mi_psh_lt (show _ < h.1 by have := hw.1; omega)).trans hc)) (v := .int 0) rfl ?_
  refine mo_ist okX9_told (j := 9) rfl (by have := hw.1; omega) (Nat.lt_succ_self _) mi_psh_self rfl (by decide) (by decide) ?_
  rw [mi_set_psh]
  refine mi_blk okX9_told 3 (pc' := 137) (lv' := [(4, .int (nI 240)), (3, .int 0), (2, .ref h.1), (0, .ref M), (1, .int 6)]) (st' := [.ref M, .int 10, .ref (h.1 + 1), .ref (h.1 + 1)]) rfl ?_
  refine mi_getf okX9_told rfl fg_RX9_120 (show 6 ≤ _ by have := hw.1; omega) (Nat.lt_succ_of_lt (Nat.lt_succ_of_lt (show _ < h.1 by have := hw.1; omega))) ((mi_psh_lt (Nat.lt_succ_of_lt (show _ < h.1 by have := hw.1; omega))).trans ((mi_psh_lt (show _ < h.1 by have := hw.1; omega)).trans hc)) (v := .int 0) rfl ?_
  refine mi_callS okX9_told (mc := 0) (ms := 0) (mc' := 0) (ms' := 0) (As := [.int 0]) (st := [.int 10, .ref (h.1 + 1), .ref (h.1 + 1)]) rfl cs_RX9_217 rfl (by decide) (Nat.le_of_ble_eq_true rfl) m_one_0 (fun r h1 q => ?_)
  obtain ⟨rfl, e9⟩ := q; have e9 := e9.symm; subst e9
  change mi_WX _ pP X kX9_told 3 0 0 143 [(4, .int (nI 240)), (3, .int 0), (2, .ref h.1), (0, .ref M), (1, .int 6)] [.int 0, .int 10, .ref (h.1 + 1), .ref (h.1 + 1)] (mi_psh (mi_psh h (.inl (0, 3, .inl (fun _ => 0)))) (.inl (0, 13, .inl (va_up (va_up (va_up (va_up (va_up (va_up (va_up (va_up (va_up (va_up (fun _ => 0) 0 0) 1 0) 2 0) 3 4) 4 0) 5 0) 6 0) 7 0) 8 0) 9 0)))) _
  refine mo_ist okX9_told (j := 10) rfl (by have := hw.1; omega) (Nat.lt_succ_self _) mi_psh_self rfl (by decide) (by decide) ?_
  rw [mi_set_psh]
  refine mi_blk okX9_told 3 (pc' := 148) (lv' := [(4, .int (nI 240)), (3, .int 0), (2, .ref h.1), (0, .ref M), (1, .int 6)]) (st' := [.ref M, .int 11, .ref (h.1 + 1), .ref (h.1 + 1)]) rfl ?_
  refine mi_getf okX9_told rfl fg_RX9_181 (show 6 ≤ _ by have := hw.1; omega) (Nat.lt_succ_of_lt (Nat.lt_succ_of_lt (show _ < h.1 by have := hw.1; omega))) ((mi_psh_lt (Nat.lt_succ_of_lt (show _ < h.1 by have := hw.1; omega))).trans ((mi_psh_lt (show _ < h.1 by have := hw.1; omega)).trans hc)) (v := .int 0) rfl ?_
  refine mo_ist okX9_told (j := 11) rfl (by have := hw.1; omega) (Nat.lt_succ_self _) mi_psh_self rfl (by decide) (by decide) ?_
  rw [mi_set_psh]
  refine mi_blk okX9_told 3 (pc' := 156) (lv' := [(4, .int (nI 240)), (3, .int 0), (2, .ref h.1), (0, .ref M), (1, .int 6)]) (st' := [.ref M, .int 12, .ref (h.1 + 1), .ref (h.1 + 1)]) rfl ?_
  refine mi_getf okX9_told rfl fg_RX9_178 (show 6 ≤ _ by have := hw.1; omega) (Nat.lt_succ_of_lt (Nat.lt_succ_of_lt (show _ < h.1 by have := hw.1; omega))) ((mi_psh_lt (Nat.lt_succ_of_lt (show _ < h.1 by have := hw.1; omega))).trans ((mi_psh_lt (show _ < h.1 by have := hw.1; omega)).trans hc)) (v := .int 0) rfl ?_
  refine mi_callS okX9_told (mc := 0) (ms := 0) (mc' := 0) (ms' := 0) (As := [.int 0]) (st := [.int 12, .ref (h.1 + 1), .ref (h.1 + 1)]) rfl cs_RX9_217 rfl (by decide) (Nat.le_of_ble_eq_true rfl) m_one_0 (fun r h1 q => ?_)
  obtain ⟨rfl, e9⟩ := q; have e9 := e9.symm; subst e9
  change mi_WX _ pP X kX9_told 3 0 0 162 [(4, .int (nI 240)), (3, .int 0), (2, .ref h.1), (0, .ref M), (1, .int 6)] [.int 0, .int 12, .ref (h.1 + 1), .ref (h.1 + 1)] (mi_psh (mi_psh h (.inl (0, 3, .inl (fun _ => 0)))) (.inl (0, 13, .inl (va_up (va_up (va_up (va_up (va_up (va_up (va_up (va_up (va_up (va_up (va_up (va_up (fun _ => 0) 0 0) 1 0) 2 0) 3 4) 4 0) 5 0) 6 0) 7 0) 8 0) 9 0) 10 0) 11 0)))) _
  refine mo_ist okX9_told (j := 12) rfl (by have := hw.1; omega) (Nat.lt_succ_self _) mi_psh_self rfl (by decide) (by decide) ?_
  rw [mi_set_psh]
  refine mi_blk okX9_told 3 (pc' := 168) (lv' := [(4, .ref (h.1 + 1)), (3, .int 0), (2, .ref h.1), (0, .ref M), (1, .int 6)]) (st' := [.int 6, .ref (h.1 + 1)]) rfl ?_
  refine mo_ild okX9_told (j := 6) (v := 0) rfl (by have := hw.1; omega) (Nat.lt_succ_self _) mi_psh_self rfl (by decide) (by decide) rfl ?_
  exact mi_ret_i okX9_told rfl rfl rfl ⟨rfl, (tp.rf.psh _).psh _⟩
set_option maxHeartbeats 4000000 in
set_option maxRecDepth 100000 in
theorem m_told_7 {X : mi_X} {h : mi_H} {M : Nat} (hw : mo_W M h) {th : Int32} (hc : h.2 M = mo_c M th mo_0) : mi_S pP X kX9_told 3 [.ref M, .int 7] h 2 16 (fun r h1 => r = some (.int 0) ∧ tp h h1) := by
  refine enX9_told (Nat.le_of_ble_eq_true rfl) ?_
  refine mi_blk okX9_told 1 (pc' := 1) (lv' := [(0, .ref M), (1, .int 7)]) (st' := [.int 3]) rfl ?_
  refine mi_newa okX9_told (mc := 1) (ms := 13) (t := 0) (N := 3) (z := .inl (fun _ => 0)) rfl rfl ac_int (by decide) (by decide) (by decide) (fun _ => rfl) (fun _ => rfl) ?_
  change mi_WX _ pP X kX9_told 3 1 13 3 [(0, .ref M), (1, .int 7)] [.ref h.1] (mi_psh h (.inl (0, 3, .inl (fun _ => 0)))) _
  refine mi_blk okX9_told 5 (pc' := 9) (lv' := [(4, .int 0), (3, .int 0), (2, .ref h.1), (0, .ref M), (1, .int 7)]) (st' := []) rfl ?_
  change mi_WX _ pP X kX9_told 3 1 13 9 [(4, .int (nI 0)), (3, .int 0), (2, .ref h.1), (0, .ref M), (1, .int 7)] [] (mi_psh h (.inl (0, 3, .inl (fun _ => 0)))) _
  refine l_told (hw.psh _) ((mi_psh_lt (show _ < h.1 by have := hw.1; omega)).trans hc) (by decide) (by decide) ?_ 240 0 rfl
  refine mi_blk okX9_told 1 (pc' := 60) (lv' := [(4, .int (nI 240)), (3, .int 0), (2, .ref h.1), (0, .ref M), (1, .int 7)]) (st' := [.int 13]) rfl ?_
  refine mi_newa okX9_told (mc := 0) (ms := 0) (t := 0) (N := 13) (z := .inl (fun _ => 0)) rfl rfl ac_int (by decide) (by decide) (by decide) (fun _ => rfl) (fun _ => rfl) ?_
  change mi_WX _ pP X kX9_told 3 0 0 62 [(4, .int (nI 240)), (3, .int 0), (2, .ref h.1), (0, .ref M), (1, .int 7)] [.ref (h.1 + 1)] (mi_psh (mi_psh h (.inl (0, 3, .inl (fun _ => 0)))) (.inl (0, 13, .inl (fun _ => 0)))) _
  refine mi_blk okX9_told 3 (pc' := 65) (lv' := [(4, .int (nI 240)), (3, .int 0), (2, .ref h.1), (0, .ref M), (1, .int 7)]) (st' := [.ref M, .int 0, .ref (h.1 + 1), .ref (h.1 + 1)]) rfl ?_
  refine mi_getf okX9_told rfl fg_RX9_124 (show 6 ≤ _ by have := hw.1; omega) (Nat.lt_succ_of_lt (Nat.lt_succ_of_lt (show _ < h.1 by have := hw.1; omega))) ((mi_psh_lt (Nat.lt_succ_of_lt (show _ < h.1 by have := hw.1; omega))).trans ((mi_psh_lt (show _ < h.1 by have := hw.1; omega)).trans hc)) (v := .int 0) rfl ?_
  refine mo_ist okX9_told (j := 0) rfl (by have := hw.1; omega) (Nat.lt_succ_self _) mi_psh_self rfl (by decide) (by decide) ?_
  rw [mi_set_psh]
  refine mi_blk okX9_told 3 (pc' := 72) (lv' := [(4, .int (nI 240)), (3, .int 0), (2, .ref h.1), (0, .ref M), (1, .int 7)]) (st' := [.ref M, .int 1, .ref (h.1 + 1), .ref (h.1 + 1)]) rfl ?_
  refine mi_getf okX9_told rfl fg_RX9_21 (show 6 ≤ _ by have := hw.1; omega) (Nat.lt_succ_of_lt (Nat.lt_succ_of_lt (show _ < h.1 by have := hw.1; omega))) ((mi_psh_lt (Nat.lt_succ_of_lt (show _ < h.1 by have := hw.1; omega))).trans ((mi_psh_lt (show _ < h.1 by have := hw.1; omega)).trans hc)) (v := .ref (M + 3)) rfl ?_
  refine mi_callV okX9_told (mc := 0) (ms := 0) (mc' := 0) (ms' := 0) (b := (M + 3)) (As := []) (st := [.int 1, .ref (h.1 + 1), .ref (h.1 + 1)]) rfl cv_RX9_42 rfl (by decide) (show 6 ≤ _ by have := hw.1; omega) (Nat.lt_succ_of_lt (Nat.lt_succ_of_lt (show _ < h.1 by have := hw.1; omega))) ((mi_psh_lt (Nat.lt_succ_of_lt (show _ < h.1 by have := hw.1; omega))).trans ((mi_psh_lt (show _ < h.1 by have := hw.1; omega)).trans hw.2.2.1)) rfl (Nat.le_of_ble_eq_true rfl) (m_size (show 6 ≤ _ by have := hw.1; omega) (Nat.lt_succ_of_lt (Nat.lt_succ_of_lt (show _ < h.1 by have := hw.1; omega))) ((mi_psh_lt (Nat.lt_succ_of_lt (show _ < h.1 by have := hw.1; omega))).trans ((mi_psh_lt (show _ < h.1 by have := hw.1; omega)).trans hw.2.2.1))) (fun r h1 q => ?_)
  obtain ⟨rfl, e9⟩ := q; have e9 := e9.symm; subst e9
  change mi_WX _ pP X kX9_told 3 0 0 78 [(4, .int (nI 240)), (3, .int 0), (2, .ref h.1), (0, .ref M), (1, .int 7)] [.int 0, .int 1, .ref (h.1 + 1), .ref (h.1 + 1)] (mi_psh (mi_psh h (.inl (0, 3, .inl (fun _ => 0)))) (.inl (0, 13, .inl (va_up (fun _ => 0) 0 0)))) _
  refine mo_ist okX9_told (j := 1) rfl (by have := hw.1; omega) (Nat.lt_succ_self _) mi_psh_self rfl (by decide) (by decide) ?_
  rw [mi_set_psh]
  refine mi_blk okX9_told 3 (pc' := 82) (lv' := [(4, .int (nI 240)), (3, .int 0), (2, .ref h.1), (0, .ref M), (1, .int 7)]) (st' := [.ref M, .int 2, .ref (h.1 + 1), .ref (h.1 + 1)]) rfl ?_
  refine mi_getf okX9_told rfl fg_RX9_127 (show 6 ≤ _ by have := hw.1; omega) (Nat.lt_succ_of_lt (Nat.lt_succ_of_lt (show _ < h.1 by have := hw.1; omega))) ((mi_psh_lt (Nat.lt_succ_of_lt (show _ < h.1 by have := hw.1; omega))).trans ((mi_psh_lt (show _ < h.1 by have := hw.1; omega)).trans hc)) (v := .int 0) rfl ?_
  refine mo_ist okX9_told (j := 2) rfl (by have := hw.1; omega) (Nat.lt_succ_self _) mi_psh_self rfl (by decide) (by decide) ?_
  rw [mi_set_psh]
  refine mi_blk okX9_told 3 (pc' := 89) (lv' := [(4, .int (nI 240)), (3, .int 0), (2, .ref h.1), (0, .ref M), (1, .int 7)]) (st' := [.ref M, .int 3, .ref (h.1 + 1), .ref (h.1 + 1)]) rfl ?_
  refine mi_getf okX9_told rfl fg_RX9_28 (show 6 ≤ _ by have := hw.1; omega) (Nat.lt_succ_of_lt (Nat.lt_succ_of_lt (show _ < h.1 by have := hw.1; omega))) ((mi_psh_lt (Nat.lt_succ_of_lt (show _ < h.1 by have := hw.1; omega))).trans ((mi_psh_lt (show _ < h.1 by have := hw.1; omega)).trans hc)) (v := .int 4) rfl ?_
  refine mo_ist okX9_told (j := 3) rfl (by have := hw.1; omega) (Nat.lt_succ_self _) mi_psh_self rfl (by decide) (by decide) ?_
  rw [mi_set_psh]
  refine mi_blk okX9_told 3 (pc' := 96) (lv' := [(4, .int (nI 240)), (3, .int 0), (2, .ref h.1), (0, .ref M), (1, .int 7)]) (st' := [.int 0, .int 4, .ref (h.1 + 1), .ref (h.1 + 1)]) rfl ?_
  refine mo_ist okX9_told (j := 4) rfl (by have := hw.1; omega) (Nat.lt_succ_self _) mi_psh_self rfl (by decide) (by decide) ?_
  rw [mi_set_psh]
  refine mi_blk okX9_told 4 (pc' := 101) (lv' := [(4, .int (nI 240)), (3, .int 0), (2, .ref h.1), (0, .ref M), (1, .int 7)]) (st' := [.int 0, .ref h.1, .int 5, .ref (h.1 + 1), .ref (h.1 + 1)]) rfl ?_
  refine mo_ild okX9_told (j := 0) (v := 0) rfl (by have := hw.1; omega) (Nat.lt_succ_of_lt (Nat.lt_succ_self _)) ((mi_psh_lt (Nat.lt_succ_self _)).trans mi_psh_self) rfl (by decide) (by decide) rfl ?_
  refine mo_ist okX9_told (j := 5) rfl (by have := hw.1; omega) (Nat.lt_succ_self _) mi_psh_self rfl (by decide) (by decide) ?_
  rw [mi_set_psh]
  refine mi_blk okX9_told 4 (pc' := 108) (lv' := [(4, .int (nI 240)), (3, .int 0), (2, .ref h.1), (0, .ref M), (1, .int 7)]) (st' := [.int 1, .ref h.1, .int 6, .ref (h.1 + 1), .ref (h.1 + 1)]) rfl ?_
  refine mo_ild okX9_told (j := 1) (v := 0) rfl (by have := hw.1; omega) (Nat.lt_succ_of_lt (Nat.lt_succ_self _)) ((mi_psh_lt (Nat.lt_succ_self _)).trans mi_psh_self) rfl (by decide) (by decide) rfl ?_
  refine mo_ist okX9_told (j := 6) rfl (by have := hw.1; omega) (Nat.lt_succ_self _) mi_psh_self rfl (by decide) (by decide) ?_
  rw [mi_set_psh]
  refine mi_blk okX9_told 4 (pc' := 115) (lv' := [(4, .int (nI 240)), (3, .int 0), (2, .ref h.1), (0, .ref M), (1, .int 7)]) (st' := [.int 2, .ref h.1, .int 7, .ref (h.1 + 1), .ref (h.1 + 1)]) rfl ?_
  refine mo_ild okX9_told (j := 2) (v := 0) rfl (by have := hw.1; omega) (Nat.lt_succ_of_lt (Nat.lt_succ_self _)) ((mi_psh_lt (Nat.lt_succ_self _)).trans mi_psh_self) rfl (by decide) (by decide) rfl ?_
  refine mo_ist okX9_told (j := 7) rfl (by have := hw.1; omega) (Nat.lt_succ_self _) mi_psh_self rfl (by decide) (by decide) ?_
  rw [mi_set_psh]
  refine mi_blk okX9_told 3 (pc' := 121) (lv' := [(4, .int (nI 240)), (3, .int 0), (2, .ref h.1), (0, .ref M), (1, .int 7)]) (st' := [.ref M, .int 8, .ref (h.1 + 1), .ref (h.1 + 1)]) rfl ?_
  refine mi_getf okX9_told rfl fg_RX9_201 (show 6 ≤ _ by have := hw.1; omega) (Nat.lt_succ_of_lt (Nat.lt_succ_of_lt (show _ < h.1 by have := hw.1; omega))) ((mi_psh_lt (Nat.lt_succ_of_lt (show _ < h.1 by have := hw.1; omega))).trans ((mi_psh_lt (show _ < h.1 by have := hw.1; omega)).trans hc)) (v := .int 0) rfl ?_
  refine mo_ist okX9_told (j := 8) rfl (by have := hw.1; omega) (Nat.lt_succ_self _) mi_psh_self rfl (by decide) (by decide) ?_
  rw [mi_set_psh]
  refine mi_blk okX9_told 3 (pc' := 129) (lv' := [(4, .int (nI 240)), (3, .int 0), (2, .ref h.1), (0, .ref M), (1, .int 7)]) (st' := [.ref M, .int 9, .ref (h.1 + 1), .ref (h.1 + 1)]) rfl ?_
  refine mi_getf okX9_told rfl fg_RX9_214 (show 6 ≤ _ by have := hw.1; omega) (Nat.lt_succ_of_lt (Nat.lt_succ_of_lt (show _ < h.1 by have := hw.1; omega))) ((mi_psh_lt (Nat.lt_succ_of_lt (show _ < h.1 by have := hw.1; omega))).trans ((mi_psh_lt (show _ < h.1 by have := hw.1; omega)).trans hc)) (v := .int 0) rfl ?_
  refine mo_ist okX9_told (j := 9) rfl (by have := hw.1; omega) (Nat.lt_succ_self _) mi_psh_self rfl (by decide) (by decide) ?_
  rw [mi_set_psh]
  refine mi_blk okX9_told 3 (pc' := 137) (lv' := [(4, .int (nI 240)), (3, .int 0), (2, .ref h.1), (0, .ref M), (1, .int 7)]) (st' := [.ref M, .int 10, .ref (h.1 + 1), .ref (h.1 + 1)]) rfl ?_
  refine mi_getf okX9_told rfl fg_RX9_120 (show 6 ≤ _ by have := hw.1; omega) (Nat.lt_succ_of_lt (Nat.lt_succ_of_lt (show _ < h.1 by have := hw.1; omega))) ((mi_psh_lt (Nat.lt_succ_of_lt (show _ < h.1 by have := hw.1; omega))).trans ((mi_psh_lt (show _ < h.1 by have := hw.1; omega)).trans hc)) (v := .int 0) rfl ?_
  refine mi_callS okX9_told (mc := 0) (ms := 0) (mc' := 0) (ms' := 0) (As := [.int 0]) (st := [.int 10, .ref (h.1 + 1), .ref (h.1 + 1)]) rfl cs_RX9_217 rfl (by decide) (Nat.le_of_ble_eq_true rfl) m_one_0 (fun r h1 q => ?_)
  obtain ⟨rfl, e9⟩ := q; have e9 := e9.symm; subst e9
  change mi_WX _ pP X kX9_told 3 0 0 143 [(4, .int (nI 240)), (3, .int 0), (2, .ref h.1), (0, .ref M), (1, .int 7)] [.int 0, .int 10, .ref (h.1 + 1), .ref (h.1 + 1)] (mi_psh (mi_psh h (.inl (0, 3, .inl (fun _ => 0)))) (.inl (0, 13, .inl (va_up (va_up (va_up (va_up (va_up (va_up (va_up (va_up (va_up (va_up (fun _ => 0) 0 0) 1 0) 2 0) 3 4) 4 0) 5 0) 6 0) 7 0) 8 0) 9 0)))) _
  refine mo_ist okX9_told (j := 10) rfl (by have := hw.1; omega) (Nat.lt_succ_self _) mi_psh_self rfl (by decide) (by decide) ?_
  rw [mi_set_psh]
  refine mi_blk okX9_told 3 (pc' := 148) (lv' := [(4, .int (nI 240)), (3, .int 0), (2, .ref h.1), (0, .ref M), (1, .int 7)]) (st' := [.ref M, .int 11, .ref (h.1 + 1), .ref (h.1 + 1)]) rfl ?_
  refine mi_getf okX9_told rfl fg_RX9_181 (show 6 ≤ _ by have := hw.1; omega) (Nat.lt_succ_of_lt (Nat.lt_succ_of_lt (show _ < h.1 by have := hw.1; omega))) ((mi_psh_lt (Nat.lt_succ_of_lt (show _ < h.1 by have := hw.1; omega))).trans ((mi_psh_lt (show _ < h.1 by have := hw.1; omega)).trans hc)) (v := .int 0) rfl ?_
  refine mo_ist okX9_told (j := 11) rfl (by have := hw.1; omega) (Nat.lt_succ_self _) mi_psh_self rfl (by decide) (by decide) ?_
  rw [mi_set_psh]
  refine mi_blk okX9_told 3 (pc' := 156) (lv' := [(4, .int (nI 240)), (3, .int 0), (2, .ref h.1), (0, .ref M), (1, .int 7)]) (st' := [.ref M, .int 12, .ref (h.1 + 1), .ref (h.1 + 1)]) rfl ?_
  refine mi_getf okX9_told rfl fg_RX9_178 (show 6 ≤ _ by have := hw.1; omega) (Nat.lt_succ_of_lt (Nat.lt_succ_of_lt (show _ < h.1 by have := hw.1; omega))) ((mi_psh_lt (Nat.lt_succ_of_lt (show _ < h.1 by have := hw.1; omega))).trans ((mi_psh_lt (show _ < h.1 by have := hw.1; omega)).trans hc)) (v := .int 0) rfl ?_
  refine mi_callS okX9_told (mc := 0) (ms := 0) (mc' := 0) (ms' := 0) (As := [.int 0]) (st := [.int 12, .ref (h.1 + 1), .ref (h.1 + 1)]) rfl cs_RX9_217 rfl (by decide) (Nat.le_of_ble_eq_true rfl) m_one_0 (fun r h1 q => ?_)
  obtain ⟨rfl, e9⟩ := q; have e9 := e9.symm; subst e9
  change mi_WX _ pP X kX9_told 3 0 0 162 [(4, .int (nI 240)), (3, .int 0), (2, .ref h.1), (0, .ref M), (1, .int 7)] [.int 0, .int 12, .ref (h.1 + 1), .ref (h.1 + 1)] (mi_psh (mi_psh h (.inl (0, 3, .inl (fun _ => 0)))) (.inl (0, 13, .inl (va_up (va_up (va_up (va_up (va_up (va_up (va_up (va_up (va_up (va_up (va_up (va_up (fun _ => 0) 0 0) 1 0) 2 0) 3 4) 4 0) 5 0) 6 0) 7 0) 8 0) 9 0) 10 0) 11 0)))) _
  refine mo_ist okX9_told (j := 12) rfl (by have := hw.1; omega) (Nat.lt_succ_self _) mi_psh_self rfl (by decide) (by decide) ?_
  rw [mi_set_psh]
  refine mi_blk okX9_told 3 (pc' := 168) (lv' := [(4, .ref (h.1 + 1)), (3, .int 0), (2, .ref h.1), (0, .ref M), (1, .int 7)]) (st' := [.int 7, .ref (h.1 + 1)]) rfl ?_
  refine mo_ild okX9_told (j := 7) (v := 0) rfl (by have := hw.1; omega) (Nat.lt_succ_self _) mi_psh_self rfl (by decide) (by decide) rfl ?_
  exact mi_ret_i okX9_told rfl rfl rfl ⟨rfl, (tp.rf.psh _).psh _⟩
set_option maxHeartbeats 4000000 in
set_option maxRecDepth 100000 in
theorem m_told_8 {X : mi_X} {h : mi_H} {M : Nat} (hw : mo_W M h) {th : Int32} (hc : h.2 M = mo_c M th mo_0) : mi_S pP X kX9_told 3 [.ref M, .int 8] h 2 16 (fun r h1 => r = some (.int 0) ∧ tp h h1) := by
  refine enX9_told (Nat.le_of_ble_eq_true rfl) ?_
  refine mi_blk okX9_told 1 (pc' := 1) (lv' := [(0, .ref M), (1, .int 8)]) (st' := [.int 3]) rfl ?_
  refine mi_newa okX9_told (mc := 1) (ms := 13) (t := 0) (N := 3) (z := .inl (fun _ => 0)) rfl rfl ac_int (by decide) (by decide) (by decide) (fun _ => rfl) (fun _ => rfl) ?_
  change mi_WX _ pP X kX9_told 3 1 13 3 [(0, .ref M), (1, .int 8)] [.ref h.1] (mi_psh h (.inl (0, 3, .inl (fun _ => 0)))) _
  refine mi_blk okX9_told 7 (pc' := 14) (lv' := [(4, .int 0), (3, .int 0), (2, .ref h.1), (0, .ref M), (1, .int 8)]) (st' := [.int 240, .int 0]) rfl ?_
  refine mi_ic_ge okX9_told rfl rfl (fun c_14 => absurd c_14 (by decide)) (fun c_14 => ?_)
  refine mi_blk okX9_told 3 (pc' := 21) (lv' := [(4, .int 0), (3, .int 0), (2, .ref h.1), (0, .ref M), (1, .int 8)]) (st' := [.int 7, .int 4, .int 8]) rfl ?_
  refine mi_callS okX9_told (mc := 1) (ms := 13) (mc' := 0) (ms' := 0) (As := [.int 8, .int 4, .int 7]) (st := []) rfl cs_RX9_46 rfl (by decide) (Nat.le_of_ble_eq_true rfl) (m_isIn_0 (by decide)) (fun r h1 q => ?_)
  obtain ⟨rfl, e9⟩ := q; have e9 := e9.symm; subst e9
  change mi_WX _ pP X kX9_told 3 1 13 24 [(4, .int 0), (3, .int 0), (2, .ref h.1), (0, .ref M), (1, .int 8)] [.int 0] (mi_psh h (.inl (0, 3, .inl (fun _ => 0)))) _
  refine mi_if_eq okX9_told rfl rfl (fun c_24 => ?_) (fun c_24 => absurd (by decide) c_24)
  refine mi_blk okX9_told 1 (pc' := 60) (lv' := [(4, .int 0), (3, .int 0), (2, .ref h.1), (0, .ref M), (1, .int 8)]) (st' := [.int 13]) rfl ?_
  refine mi_newa okX9_told (mc := 0) (ms := 0) (t := 0) (N := 13) (z := .inl (fun _ => 0)) rfl rfl ac_int (by decide) (by decide) (by decide) (fun _ => rfl) (fun _ => rfl) ?_
  change mi_WX _ pP X kX9_told 3 0 0 62 [(4, .int 0), (3, .int 0), (2, .ref h.1), (0, .ref M), (1, .int 8)] [.ref (h.1 + 1)] (mi_psh (mi_psh h (.inl (0, 3, .inl (fun _ => 0)))) (.inl (0, 13, .inl (fun _ => 0)))) _
  refine mi_blk okX9_told 3 (pc' := 65) (lv' := [(4, .int 0), (3, .int 0), (2, .ref h.1), (0, .ref M), (1, .int 8)]) (st' := [.ref M, .int 0, .ref (h.1 + 1), .ref (h.1 + 1)]) rfl ?_
  refine mi_getf okX9_told rfl fg_RX9_124 (show 6 ≤ _ by have := hw.1; omega) (Nat.lt_succ_of_lt (Nat.lt_succ_of_lt (show _ < h.1 by have := hw.1; omega))) ((mi_psh_lt (Nat.lt_succ_of_lt (show _ < h.1 by have := hw.1; omega))).trans ((mi_psh_lt (show _ < h.1 by have := hw.1; omega)).trans hc)) (v := .int 0) rfl ?_
  refine mo_ist okX9_told (j := 0) rfl (by have := hw.1; omega) (Nat.lt_succ_self _) mi_psh_self rfl (by decide) (by decide) ?_
  rw [mi_set_psh]
  refine mi_blk okX9_told 3 (pc' := 72) (lv' := [(4, .int 0), (3, .int 0), (2, .ref h.1), (0, .ref M), (1, .int 8)]) (st' := [.ref M, .int 1, .ref (h.1 + 1), .ref (h.1 + 1)]) rfl ?_
  refine mi_getf okX9_told rfl fg_RX9_21 (show 6 ≤ _ by have := hw.1; omega) (Nat.lt_succ_of_lt (Nat.lt_succ_of_lt (show _ < h.1 by have := hw.1; omega))) ((mi_psh_lt (Nat.lt_succ_of_lt (show _ < h.1 by have := hw.1; omega))).trans ((mi_psh_lt (show _ < h.1 by have := hw.1; omega)).trans hc)) (v := .ref (M + 3)) rfl ?_
  refine mi_callV okX9_told (mc := 0) (ms := 0) (mc' := 0) (ms' := 0) (b := (M + 3)) (As := []) (st := [.int 1, .ref (h.1 + 1), .ref (h.1 + 1)]) rfl cv_RX9_42 rfl (by decide) (show 6 ≤ _ by have := hw.1; omega) (Nat.lt_succ_of_lt (Nat.lt_succ_of_lt (show _ < h.1 by have := hw.1; omega))) ((mi_psh_lt (Nat.lt_succ_of_lt (show _ < h.1 by have := hw.1; omega))).trans ((mi_psh_lt (show _ < h.1 by have := hw.1; omega)).trans hw.2.2.1)) rfl (Nat.le_of_ble_eq_true rfl) (m_size (show 6 ≤ _ by have := hw.1; omega) (Nat.lt_succ_of_lt (Nat.lt_succ_of_lt (show _ < h.1 by have := hw.1; omega))) ((mi_psh_lt (Nat.lt_succ_of_lt (show _ < h.1 by have := hw.1; omega))).trans ((mi_psh_lt (show _ < h.1 by have := hw.1; omega)).trans hw.2.2.1))) (fun r h1 q => ?_)
  obtain ⟨rfl, e9⟩ := q; have e9 := e9.symm; subst e9
  change mi_WX _ pP X kX9_told 3 0 0 78 [(4, .int 0), (3, .int 0), (2, .ref h.1), (0, .ref M), (1, .int 8)] [.int 0, .int 1, .ref (h.1 + 1), .ref (h.1 + 1)] (mi_psh (mi_psh h (.inl (0, 3, .inl (fun _ => 0)))) (.inl (0, 13, .inl (va_up (fun _ => 0) 0 0)))) _
  refine mo_ist okX9_told (j := 1) rfl (by have := hw.1; omega) (Nat.lt_succ_self _) mi_psh_self rfl (by decide) (by decide) ?_
  rw [mi_set_psh]
  refine mi_blk okX9_told 3 (pc' := 82) (lv' := [(4, .int 0), (3, .int 0), (2, .ref h.1), (0, .ref M), (1, .int 8)]) (st' := [.ref M, .int 2, .ref (h.1 + 1), .ref (h.1 + 1)]) rfl ?_
  refine mi_getf okX9_told rfl fg_RX9_127 (show 6 ≤ _ by have := hw.1; omega) (Nat.lt_succ_of_lt (Nat.lt_succ_of_lt (show _ < h.1 by have := hw.1; omega))) ((mi_psh_lt (Nat.lt_succ_of_lt (show _ < h.1 by have := hw.1; omega))).trans ((mi_psh_lt (show _ < h.1 by have := hw.1; omega)).trans hc)) (v := .int 0) rfl ?_
  refine mo_ist okX9_told (j := 2) rfl (by have := hw.1; omega) (Nat.lt_succ_self _) mi_psh_self rfl (by decide) (by decide) ?_
  rw [mi_set_psh]
  refine mi_blk okX9_told 3 (pc' := 89) (lv' := [(4, .int 0), (3, .int 0), (2, .ref h.1), (0, .ref M), (1, .int 8)]) (st' := [.ref M, .int 3, .ref (h.1 + 1), .ref (h.1 + 1)]) rfl ?_
  refine mi_getf okX9_told rfl fg_RX9_28 (show 6 ≤ _ by have := hw.1; omega) (Nat.lt_succ_of_lt (Nat.lt_succ_of_lt (show _ < h.1 by have := hw.1; omega))) ((mi_psh_lt (Nat.lt_succ_of_lt (show _ < h.1 by have := hw.1; omega))).trans ((mi_psh_lt (show _ < h.1 by have := hw.1; omega)).trans hc)) (v := .int 4) rfl ?_
  refine mo_ist okX9_told (j := 3) rfl (by have := hw.1; omega) (Nat.lt_succ_self _) mi_psh_self rfl (by decide) (by decide) ?_
  rw [mi_set_psh]
  refine mi_blk okX9_told 3 (pc' := 96) (lv' := [(4, .int 0), (3, .int 0), (2, .ref h.1), (0, .ref M), (1, .int 8)]) (st' := [.int 0, .int 4, .ref (h.1 + 1), .ref (h.1 + 1)]) rfl ?_
  refine mo_ist okX9_told (j := 4) rfl (by have := hw.1; omega) (Nat.lt_succ_self _) mi_psh_self rfl (by decide) (by decide) ?_
  rw [mi_set_psh]
  refine mi_blk okX9_told 4 (pc' := 101) (lv' := [(4, .int 0), (3, .int 0), (2, .ref h.1), (0, .ref M), (1, .int 8)]) (st' := [.int 0, .ref h.1, .int 5, .ref (h.1 + 1), .ref (h.1 + 1)]) rfl ?_
  refine mo_ild okX9_told (j := 0) (v := 0) rfl (by have := hw.1; omega) (Nat.lt_succ_of_lt (Nat.lt_succ_self _)) ((mi_psh_lt (Nat.lt_succ_self _)).trans mi_psh_self) rfl (by decide) (by decide) rfl ?_
  refine mo_ist okX9_told (j := 5) rfl (by have := hw.1; omega) (Nat.lt_succ_self _) mi_psh_self rfl (by decide) (by decide) ?_
  rw [mi_set_psh]
  refine mi_blk okX9_told 4 (pc' := 108) (lv' := [(4, .int 0), (3, .int 0), (2, .ref h.1), (0, .ref M), (1, .int 8)]) (st' := [.int 1, .ref h.1, .int 6, .ref (h.1 + 1), .ref (h.1 + 1)]) rfl ?_
  refine mo_ild okX9_told (j := 1) (v := 0) rfl (by have := hw.1; omega) (Nat.lt_succ_of_lt (Nat.lt_succ_self _)) ((mi_psh_lt (Nat.lt_succ_self _)).trans mi_psh_self) rfl (by decide) (by decide) rfl ?_
  refine mo_ist okX9_told (j := 6) rfl (by have := hw.1; omega) (Nat.lt_succ_self _) mi_psh_self rfl (by decide) (by decide) ?_
  rw [mi_set_psh]
  refine mi_blk okX9_told 4 (pc' := 115) (lv' := [(4, .int 0), (3, .int 0), (2, .ref h.1), (0, .ref M), (1, .int 8)]) (st' := [.int 2, .ref h.1, .int 7, .ref (h.1 + 1), .ref (h.1 + 1)]) rfl ?_
  refine mo_ild okX9_told (j := 2) (v := 0) rfl (by have := hw.1; omega) (Nat.lt_succ_of_lt (Nat.lt_succ_self _)) ((mi_psh_lt (Nat.lt_succ_self _)).trans mi_psh_self) rfl (by decide) (by decide) rfl ?_
  refine mo_ist okX9_told (j := 7) rfl (by have := hw.1; omega) (Nat.lt_succ_self _) mi_psh_self rfl (by decide) (by decide) ?_
  rw [mi_set_psh]
  refine mi_blk okX9_told 3 (pc' := 121) (lv' := [(4, .int 0), (3, .int 0), (2, .ref h.1), (0, .ref M), (1, .int 8)]) (st' := [.ref M, .int 8, .ref (h.1 + 1), .ref (h.1 + 1)]) rfl ?_
  refine mi_getf okX9_told rfl fg_RX9_201 (show 6 ≤ _ by have := hw.1; omega) (Nat.lt_succ_of_lt (Nat.lt_succ_of_lt (show _ < h.1 by have := hw.1; omega))) ((mi_psh_lt (Nat.lt_succ_of_lt (show _ < h.1 by have := hw.1; omega))).trans ((mi_psh_lt (show _ < h.1 by have := hw.1; omega)).trans hc)) (v := .int 0) rfl ?_
  refine mo_ist okX9_told (j := 8) rfl (by have := hw.1; omega) (Nat.lt_succ_self _) mi_psh_self rfl (by decide) (by decide) ?_
  rw [mi_set_psh]
  refine mi_blk okX9_told 3 (pc' := 129) (lv' := [(4, .int 0), (3, .int 0), (2, .ref h.1), (0, .ref M), (1, .int 8)]) (st' := [.ref M, .int 9, .ref (h.1 + 1), .ref (h.1 + 1)]) rfl ?_
  refine mi_getf okX9_told rfl fg_RX9_214 (show 6 ≤ _ by have := hw.1; omega) (Nat.lt_succ_of_lt (Nat.lt_succ_of_lt (show _ < h.1 by have := hw.1; omega))) ((mi_psh_lt (Nat.lt_succ_of_lt (show _ < h.1 by have := hw.1; omega))).trans ((mi_psh_lt (show _ < h.1 by have := hw.1; omega)).trans hc)) (v := .int 0) rfl ?_
  refine mo_ist okX9_told (j := 9) rfl (by have := hw.1; omega) (Nat.lt_succ_self _) mi_psh_self rfl (by decide) (by decide) ?_
  rw [mi_set_psh]
  refine mi_blk okX9_told 3 (pc' := 137) (lv' := [(4, .int 0), (3, .int 0), (2, .ref h.1), (0, .ref M), (1, .int 8)]) (st' := [.ref M, .int 10, .ref (h.1 + 1), .ref (h.1 + 1)]) rfl ?_
  refine mi_getf okX9_told rfl fg_RX9_120 (show 6 ≤ _ by have := hw.1; omega) (Nat.lt_succ_of_lt (Nat.lt_succ_of_lt (show _ < h.1 by have := hw.1; omega))) ((mi_psh_lt (Nat.lt_succ_of_lt (show _ < h.1 by have := hw.1; omega))).trans ((mi_psh_lt (show _ < h.1 by have := hw.1; omega)).trans hc)) (v := .int 0) rfl ?_
  refine mi_callS okX9_told (mc := 0) (ms := 0) (mc' := 0) (ms' := 0) (As := [.int 0]) (st := [.int 10, .ref (h.1 + 1), .ref (h.1 + 1)]) rfl cs_RX9_217 rfl (by decide) (Nat.le_of_ble_eq_true rfl) m_one_0 (fun r h1 q => ?_)
  obtain ⟨rfl, e9⟩ := q; have e9 := e9.symm; subst e9
  change mi_WX _ pP X kX9_told 3 0 0 143 [(4, .int 0), (3, .int 0), (2, .ref h.1), (0, .ref M), (1, .int 8)] [.int 0, .int 10, .ref (h.1 + 1), .ref (h.1 + 1)] (mi_psh (mi_psh h (.inl (0, 3, .inl (fun _ => 0)))) (.inl (0, 13, .inl (va_up (va_up (va_up (va_up (va_up (va_up (va_up (va_up (va_up (va_up (fun _ => 0) 0 0) 1 0) 2 0) 3 4) 4 0) 5 0) 6 0) 7 0) 8 0) 9 0)))) _
  refine mo_ist okX9_told (j := 10) rfl (by have := hw.1; omega) (Nat.lt_succ_self _) mi_psh_self rfl (by decide) (by decide) ?_
  rw [mi_set_psh]
  refine mi_blk okX9_told 3 (pc' := 148) (lv' := [(4, .int 0), (3, .int 0), (2, .ref h.1), (0, .ref M), (1, .int 8)]) (st' := [.ref M, .int 11, .ref (h.1 + 1), .ref (h.1 + 1)]) rfl ?_
  refine mi_getf okX9_told rfl fg_RX9_181 (show 6 ≤ _ by have := hw.1; omega) (Nat.lt_succ_of_lt (Nat.lt_succ_of_lt (show _ < h.1 by have := hw.1; omega))) ((mi_psh_lt (Nat.lt_succ_of_lt (show _ < h.1 by have := hw.1; omega))).trans ((mi_psh_lt (show _ < h.1 by have := hw.1; omega)).trans hc)) (v := .int 0) rfl ?_
  refine mo_ist okX9_told (j := 11) rfl (by have := hw.1; omega) (Nat.lt_succ_self _) mi_psh_self rfl (by decide) (by decide) ?_
  rw [mi_set_psh]
  refine mi_blk okX9_told 3 (pc' := 156) (lv' := [(4, .int 0), (3, .int 0), (2, .ref h.1), (0, .ref M), (1, .int 8)]) (st' := [.ref M, .int 12, .ref (h.1 + 1), .ref (h.1 + 1)]) rfl ?_
  refine mi_getf okX9_told rfl fg_RX9_178 (show 6 ≤ _ by have := hw.1; omega) (Nat.lt_succ_of_lt (Nat.lt_succ_of_lt (show _ < h.1 by have := hw.1; omega))) ((mi_psh_lt (Nat.lt_succ_of_lt (show _ < h.1 by have := hw.1; omega))).trans ((mi_psh_lt (show _ < h.1 by have := hw.1; omega)).trans hc)) (v := .int 0) rfl ?_
  refine mi_callS okX9_told (mc := 0) (ms := 0) (mc' := 0) (ms' := 0) (As := [.int 0]) (st := [.int 12, .ref (h.1 + 1), .ref (h.1 + 1)]) rfl cs_RX9_217 rfl (by decide) (Nat.le_of_ble_eq_true rfl) m_one_0 (fun r h1 q => ?_)
  obtain ⟨rfl, e9⟩ := q; have e9 := e9.symm; subst e9
  change mi_WX _ pP X kX9_told 3 0 0 162 [(4, .int 0), (3, .int 0), (2, .ref h.1), (0, .ref M), (1, .int 8)] [.int 0, .int 12, .ref (h.1 + 1), .ref (h.1 + 1)] (mi_psh (mi_psh h (.inl (0, 3, .inl (fun _ => 0)))) (.inl (0, 13, .inl (va_up (va_up (va_up (va_up (va_up (va_up (va_up (va_up (va_up (va_up (va_up (va_up (fun _ => 0) 0 0) 1 0) 2 0) 3 4) 4 0) 5 0) 6 0) 7 0) 8 0) 9 0) 10 0) 11 0)))) _
  refine mo_ist okX9_told (j := 12) rfl (by have := hw.1; omega) (Nat.lt_succ_self _) mi_psh_self rfl (by decide) (by decide) ?_
  rw [mi_set_psh]
  refine mi_blk okX9_told 3 (pc' := 168) (lv' := [(4, .ref (h.1 + 1)), (3, .int 0), (2, .ref h.1), (0, .ref M), (1, .int 8)]) (st' := [.int 8, .ref (h.1 + 1)]) rfl ?_
  refine mo_ild okX9_told (j := 8) (v := 0) rfl (by have := hw.1; omega) (Nat.lt_succ_self _) mi_psh_self rfl (by decide) (by decide) rfl ?_
  exact mi_ret_i okX9_told rfl rfl rfl ⟨rfl, (tp.rf.psh _).psh _⟩
set_option maxHeartbeats 4000000 in
set_option maxRecDepth 100000 in
theorem m_told_9 {X : mi_X} {h : mi_H} {M : Nat} (hw : mo_W M h) {th : Int32} (hc : h.2 M = mo_c M th mo_0) : mi_S pP X kX9_told 3 [.ref M, .int 9] h 2 16 (fun r h1 => r = some (.int 0) ∧ tp h h1) := by
  refine enX9_told (Nat.le_of_ble_eq_true rfl) ?_
  refine mi_blk okX9_told 1 (pc' := 1) (lv' := [(0, .ref M), (1, .int 9)]) (st' := [.int 3]) rfl ?_
  refine mi_newa okX9_told (mc := 1) (ms := 13) (t := 0) (N := 3) (z := .inl (fun _ => 0)) rfl rfl ac_int (by decide) (by decide) (by decide) (fun _ => rfl) (fun _ => rfl) ?_
  change mi_WX _ pP X kX9_told 3 1 13 3 [(0, .ref M), (1, .int 9)] [.ref h.1] (mi_psh h (.inl (0, 3, .inl (fun _ => 0)))) _
  refine mi_blk okX9_told 7 (pc' := 14) (lv' := [(4, .int 0), (3, .int 0), (2, .ref h.1), (0, .ref M), (1, .int 9)]) (st' := [.int 240, .int 0]) rfl ?_
  refine mi_ic_ge okX9_told rfl rfl (fun c_14 => absurd c_14 (by decide)) (fun c_14 => ?_)
  refine mi_blk okX9_told 3 (pc' := 21) (lv' := [(4, .int 0), (3, .int 0), (2, .ref h.1), (0, .ref M), (1, .int 9)]) (st' := [.int 7, .int 4, .int 9]) rfl ?_
  refine mi_callS okX9_told (mc := 1) (ms := 13) (mc' := 0) (ms' := 0) (As := [.int 9, .int 4, .int 7]) (st := []) rfl cs_RX9_46 rfl (by decide) (Nat.le_of_ble_eq_true rfl) (m_isIn_0 (by decide)) (fun r h1 q => ?_)
  obtain ⟨rfl, e9⟩ := q; have e9 := e9.symm; subst e9
  change mi_WX _ pP X kX9_told 3 1 13 24 [(4, .int 0), (3, .int 0), (2, .ref h.1), (0, .ref M), (1, .int 9)] [.int 0] (mi_psh h (.inl (0, 3, .inl (fun _ => 0)))) _
  refine mi_if_eq okX9_told rfl rfl (fun c_24 => ?_) (fun c_24 => absurd (by decide) c_24)
  refine mi_blk okX9_told 1 (pc' := 60) (lv' := [(4, .int 0), (3, .int 0), (2, .ref h.1), (0, .ref M), (1, .int 9)]) (st' := [.int 13]) rfl ?_
  refine mi_newa okX9_told (mc := 0) (ms := 0) (t := 0) (N := 13) (z := .inl (fun _ => 0)) rfl rfl ac_int (by decide) (by decide) (by decide) (fun _ => rfl) (fun _ => rfl) ?_
  change mi_WX _ pP X kX9_told 3 0 0 62 [(4, .int 0), (3, .int 0), (2, .ref h.1), (0, .ref M), (1, .int 9)] [.ref (h.1 + 1)] (mi_psh (mi_psh h (.inl (0, 3, .inl (fun _ => 0)))) (.inl (0, 13, .inl (fun _ => 0)))) _
  refine mi_blk okX9_told 3 (pc' := 65) (lv' := [(4, .int 0), (3, .int 0), (2, .ref h.1), (0, .ref M), (1, .int 9)]) (st' := [.ref M, .int 0, .ref (h.1 + 1), .ref (h.1 + 1)]) rfl ?_
  refine mi_getf okX9_told rfl fg_RX9_124 (show 6 ≤ _ by have := hw.1; omega) (Nat.lt_succ_of_lt (Nat.lt_succ_of_lt (show _ < h.1 by have := hw.1; omega))) ((mi_psh_lt (Nat.lt_succ_of_lt (show _ < h.1 by have := hw.1; omega))).trans ((mi_psh_lt (show _ < h.1 by have := hw.1; omega)).trans hc)) (v := .int 0) rfl ?_
  refine mo_ist okX9_told (j := 0) rfl (by have := hw.1; omega) (Nat.lt_succ_self _) mi_psh_self rfl (by decide) (by decide) ?_
  rw [mi_set_psh]
  refine mi_blk okX9_told 3 (pc' := 72) (lv' := [(4, .int 0), (3, .int 0), (2, .ref h.1), (0, .ref M), (1, .int 9)]) (st' := [.ref M, .int 1, .ref (h.1 + 1), .ref (h.1 + 1)]) rfl ?_
  refine mi_getf okX9_told rfl fg_RX9_21 (show 6 ≤ _ by have := hw.1; omega) (Nat.lt_succ_of_lt (Nat.lt_succ_of_lt (show _ < h.1 by have := hw.1; omega))) ((mi_psh_lt (Nat.lt_succ_of_lt (show _ < h.1 by have := hw.1; omega))).trans ((mi_psh_lt (show _ < h.1 by have := hw.1; omega)).trans hc)) (v := .ref (M + 3)) rfl ?_
  refine mi_callV okX9_told (mc := 0) (ms := 0) (mc' := 0) (ms' := 0) (b := (M + 3)) (As := []) (st := [.int 1, .ref (h.1 + 1), .ref (h.1 + 1)]) rfl cv_RX9_42 rfl (by decide) (show 6 ≤ _ by have := hw.1; omega) (Nat.lt_succ_of_lt (Nat.lt_succ_of_lt (show _ < h.1 by have := hw.1; omega))) ((mi_psh_lt (Nat.lt_succ_of_lt (show _ < h.1 by have := hw.1; omega))).trans ((mi_psh_lt (show _ < h.1 by have := hw.1; omega)).trans hw.2.2.1)) rfl (Nat.le_of_ble_eq_true rfl) (m_size (show 6 ≤ _ by have := hw.1; omega) (Nat.lt_succ_of_lt (Nat.lt_succ_of_lt (show _ < h.1 by have := hw.1; omega))) ((mi_psh_lt (Nat.lt_succ_of_lt (show _ < h.1 by have := hw.1; omega))).trans ((mi_psh_lt (show _ < h.1 by have := hw.1; omega)).trans hw.2.2.1))) (fun r h1 q => ?_)
  obtain ⟨rfl, e9⟩ := q; have e9 := e9.symm; subst e9
  change mi_WX _ pP X kX9_told 3 0 0 78 [(4, .int 0), (3, .int 0), (2, .ref h.1), (0, .ref M), (1, .int 9)] [.int 0, .int 1, .ref (h.1 + 1), .ref (h.1 + 1)] (mi_psh (mi_psh h (.inl (0, 3, .inl (fun _ => 0)))) (.inl (0, 13, .inl (va_up (fun _ => 0) 0 0)))) _
  refine mo_ist okX9_told (j := 1) rfl (by have := hw.1; omega) (Nat.lt_succ_self _) mi_psh_self rfl (by decide) (by decide) ?_
  rw [mi_set_psh]
  refine mi_blk okX9_told 3 (pc' := 82) (lv' := [(4, .int 0), (3, .int 0), (2, .ref h.1), (0, .ref M), (1, .int 9)]) (st' := [.ref M, .int 2, .ref (h.1 + 1), .ref (h.1 + 1)]) rfl ?_
  refine mi_getf okX9_told rfl fg_RX9_127 (show 6 ≤ _ by have := hw.1; omega) (Nat.lt_succ_of_lt (Nat.lt_succ_of_lt (show _ < h.1 by have := hw.1; omega))) ((mi_psh_lt (Nat.lt_succ_of_lt (show _ < h.1 by have := hw.1; omega))).trans ((mi_psh_lt (show _ < h.1 by have := hw.1; omega)).trans hc)) (v := .int 0) rfl ?_
  refine mo_ist okX9_told (j := 2) rfl (by have := hw.1; omega) (Nat.lt_succ_self _) mi_psh_self rfl (by decide) (by decide) ?_
  rw [mi_set_psh]
  refine mi_blk okX9_told 3 (pc' := 89) (lv' := [(4, .int 0), (3, .int 0), (2, .ref h.1), (0, .ref M), (1, .int 9)]) (st' := [.ref M, .int 3, .ref (h.1 + 1), .ref (h.1 + 1)]) rfl ?_
  refine mi_getf okX9_told rfl fg_RX9_28 (show 6 ≤ _ by have := hw.1; omega) (Nat.lt_succ_of_lt (Nat.lt_succ_of_lt (show _ < h.1 by have := hw.1; omega))) ((mi_psh_lt (Nat.lt_succ_of_lt (show _ < h.1 by have := hw.1; omega))).trans ((mi_psh_lt (show _ < h.1 by have := hw.1; omega)).trans hc)) (v := .int 4) rfl ?_
  refine mo_ist okX9_told (j := 3) rfl (by have := hw.1; omega) (Nat.lt_succ_self _) mi_psh_self rfl (by decide) (by decide) ?_
  rw [mi_set_psh]
  refine mi_blk okX9_told 3 (pc' := 96) (lv' := [(4, .int 0), (3, .int 0), (2, .ref h.1), (0, .ref M), (1, .int 9)]) (st' := [.int 0, .int 4, .ref (h.1 + 1), .ref (h.1 + 1)]) rfl ?_
  refine mo_ist okX9_told (j := 4) rfl (by have := hw.1; omega) (Nat.lt_succ_self _) mi_psh_self rfl (by decide) (by decide) ?_
  rw [mi_set_psh]
  refine mi_blk okX9_told 4 (pc' := 101) (lv' := [(4, .int 0), (3, .int 0), (2, .ref h.1), (0, .ref M), (1, .int 9)]) (st' := [.int 0, .ref h.1, .int 5, .ref (h.1 + 1), .ref (h.1 + 1)]) rfl ?_
  refine mo_ild okX9_told (j := 0) (v := 0) rfl (by have := hw.1; omega) (Nat.lt_succ_of_lt (Nat.lt_succ_self _)) ((mi_psh_lt (Nat.lt_succ_self _)).trans mi_psh_self) rfl (by decide) (by decide) rfl ?_
  refine mo_ist okX9_told (j := 5) rfl (by have := hw.1; omega) (Nat.lt_succ_self _) mi_psh_self rfl (by decide) (by decide) ?_
  rw [mi_set_psh]
  refine mi_blk okX9_told 4 (pc' := 108) (lv' := [(4, .int 0), (3, .int 0), (2, .ref h.1), (0, .ref M), (1, .int 9)]) (st' := [.int 1, .ref h.1, .int 6, .ref (h.1 + 1), .ref (h.1 + 1)]) rfl ?_
  refine mo_ild okX9_told (j := 1) (v := 0) rfl (by have := hw.1; omega) (Nat.lt_succ_of_lt (Nat.lt_succ_self _)) ((mi_psh_lt (Nat.lt_succ_self _)).trans mi_psh_self) rfl (by decide) (by decide) rfl ?_
  refine mo_ist okX9_told (j := 6) rfl (by have := hw.1; omega) (Nat.lt_succ_self _) mi_psh_self rfl (by decide) (by decide) ?_
  rw [mi_set_psh]
  refine mi_blk okX9_told 4 (pc' := 115) (lv' := [(4, .int 0), (3, .int 0), (2, .ref h.1), (0, .ref M), (1, .int 9)]) (st' := [.int 2, .ref h.1, .int 7, .ref (h.1 + 1), .ref (h.1 + 1)]) rfl ?_
  refine mo_ild okX9_told (j := 2) (v := 0) rfl (by have := hw.1; omega) (Nat.lt_succ_of_lt (Nat.lt_succ_self _)) ((mi_psh_lt (Nat.lt_succ_self _)).trans mi_psh_self) rfl (by decide) (by decide) rfl ?_
  refine mo_ist okX9_told (j := 7) rfl (by have := hw.1; omega) (Nat.lt_succ_self _) mi_psh_self rfl (by decide) (by decide) ?_
  rw [mi_set_psh]
  refine mi_blk okX9_told 3 (pc' := 121) (lv' := [(4, .int 0), (3, .int 0), (2, .ref h.1), (0, .ref M), (1, .int 9)]) (st' := [.ref M, .int 8, .ref (h.1 + 1), .ref (h.1 + 1)]) rfl ?_
  refine mi_getf okX9_told rfl fg_RX9_201 (show 6 ≤ _ by have := hw.1; omega) (Nat.lt_succ_of_lt (Nat.lt_succ_of_lt (show _ < h.1 by have := hw.1; omega))) ((mi_psh_lt (Nat.lt_succ_of_lt (show _ < h.1 by have := hw.1; omega))).trans ((mi_psh_lt (show _ < h.1 by have := hw.1; omega)).trans hc)) (v := .int 0) rfl ?_
  refine mo_ist okX9_told (j := 8) rfl (by have := hw.1; omega) (Nat.lt_succ_self _) mi_psh_self rfl (by decide) (by decide) ?_
  rw [mi_set_psh]
  refine mi_blk okX9_told 3 (pc' := 129) (lv' := [(4, .int 0), (3, .int 0), (2, .ref h.1), (0, .ref M), (1, .int 9)]) (st' := [.ref M, .int 9, .ref (h.1 + 1), .ref (h.1 + 1)]) rfl ?_
  refine mi_getf okX9_told rfl fg_RX9_214 (show 6 ≤ _ by have := hw.1; omega) (Nat.lt_succ_of_lt (Nat.lt_succ_of_lt (show _ < h.1 by have := hw.1; omega))) ((mi_psh_lt (Nat.lt_succ_of_lt (show _ < h.1 by have := hw.1; omega))).trans ((mi_psh_lt (show _ < h.1 by have := hw.1; omega)).trans hc)) (v := .int 0) rfl ?_
  refine mo_ist okX9_told (j := 9) rfl (by have := hw.1; omega) (Nat.lt_succ_self _) mi_psh_self rfl (by decide) (by decide) ?_
  rw [mi_set_psh]
  refine mi_blk okX9_told 3 (pc' := 137) (lv' := [(4, .int 0), (3, .int 0), (2, .ref h.1), (0, .ref M), (1, .int 9)]) (st' := [.ref M, .int 10, .ref (h.1 + 1), .ref (h.1 + 1)]) rfl ?_
  refine mi_getf okX9_told rfl fg_RX9_120 (show 6 ≤ _ by have := hw.1; omega) (Nat.lt_succ_of_lt (Nat.lt_succ_of_lt (show _ < h.1 by have := hw.1; omega))) ((mi_psh_lt (Nat.lt_succ_of_lt (show _ < h.1 by have := hw.1; omega))).trans ((mi_psh_lt (show _ < h.1 by have := hw.1; omega)).trans hc)) (v := .int 0) rfl ?_
  refine mi_callS okX9_told (mc := 0) (ms := 0) (mc' := 0) (ms' := 0) (As := [.int 0]) (st := [.int 10, .ref (h.1 + 1), .ref (h.1 + 1)]) rfl cs_RX9_217 rfl (by decide) (Nat.le_of_ble_eq_true rfl) m_one_0 (fun r h1 q => ?_)
  obtain ⟨rfl, e9⟩ := q; have e9 := e9.symm; subst e9
  change mi_WX _ pP X kX9_told 3 0 0 143 [(4, .int 0), (3, .int 0), (2, .ref h.1), (0, .ref M), (1, .int 9)] [.int 0, .int 10, .ref (h.1 + 1), .ref (h.1 + 1)] (mi_psh (mi_psh h (.inl (0, 3, .inl (fun _ => 0)))) (.inl (0, 13, .inl (va_up (va_up (va_up (va_up (va_up (va_up (va_up (va_up (va_up (va_up (fun _ => 0) 0 0) 1 0) 2 0) 3 4) 4 0) 5 0) 6 0) 7 0) 8 0) 9 0)))) _
  refine mo_ist okX9_told (j := 10) rfl (by have := hw.1; omega) (Nat.lt_succ_self _) mi_psh_self rfl (by decide) (by decide) ?_
  rw [mi_set_psh]
  refine mi_blk okX9_told 3 (pc' := 148) (lv' := [(4, .int 0), (3, .int 0), (2, .ref h.1), (0, .ref M), (1, .int 9)]) (st' := [.ref M, .int 11, .ref (h.1 + 1), .ref (h.1 + 1)]) rfl ?_
  refine mi_getf okX9_told rfl fg_RX9_181 (show 6 ≤ _ by have := hw.1; omega) (Nat.lt_succ_of_lt (Nat.lt_succ_of_lt (show _ < h.1 by have := hw.1; omega))) ((mi_psh_lt (Nat.lt_succ_of_lt (show _ < h.1 by have := hw.1; omega))).trans ((mi_psh_lt (show _ < h.1 by have := hw.1; omega)).trans hc)) (v := .int 0) rfl ?_
  refine mo_ist okX9_told (j := 11) rfl (by have := hw.1; omega) (Nat.lt_succ_self _) mi_psh_self rfl (by decide) (by decide) ?_
  rw [mi_set_psh]
  refine mi_blk okX9_told 3 (pc' := 156) (lv' := [(4, .int 0), (3, .int 0), (2, .ref h.1), (0, .ref M), (1, .int 9)]) (st' := [.ref M, .int 12, .ref (h.1 + 1), .ref (h.1 + 1)]) rfl ?_
  refine mi_getf okX9_told rfl fg_RX9_178 (show 6 ≤ _ by have := hw.1; omega) (Nat.lt_succ_of_lt (Nat.lt_succ_of_lt (show _ < h.1 by have := hw.1; omega))) ((mi_psh_lt (Nat.lt_succ_of_lt (show _ < h.1 by have := hw.1; omega))).trans ((mi_psh_lt (show _ < h.1 by have := hw.1; omega)).trans hc)) (v := .int 0) rfl ?_
  refine mi_callS okX9_told (mc := 0) (ms := 0) (mc' := 0) (ms' := 0) (As := [.int 0]) (st := [.int 12, .ref (h.1 + 1), .ref (h.1 + 1)]) rfl cs_RX9_217 rfl (by decide) (Nat.le_of_ble_eq_true rfl) m_one_0 (fun r h1 q => ?_)
  obtain ⟨rfl, e9⟩ := q; have e9 := e9.symm; subst e9
  change mi_WX _ pP X kX9_told 3 0 0 162 [(4, .int 0), (3, .int 0), (2, .ref h.1), (0, .ref M), (1, .int 9)] [.int 0, .int 12, .ref (h.1 + 1), .ref (h.1 + 1)] (mi_psh (mi_psh h (.inl (0, 3, .inl (fun _ => 0)))) (.inl (0, 13, .inl (va_up (va_up (va_up (va_up (va_up (va_up (va_up (va_up (va_up (va_up (va_up (va_up (fun _ => 0) 0 0) 1 0) 2 0) 3 4) 4 0) 5 0) 6 0) 7 0) 8 0) 9 0) 10 0) 11 0)))) _
  refine mo_ist okX9_told (j := 12) rfl (by have := hw.1; omega) (Nat.lt_succ_self _) mi_psh_self rfl (by decide) (by decide) ?_
  rw [mi_set_psh]
  refine mi_blk okX9_told 3 (pc' := 168) (lv' := [(4, .ref (h.1 + 1)), (3, .int 0), (2, .ref h.1), (0, .ref M), (1, .int 9)]) (st' := [.int 9, .ref (h.1 + 1)]) rfl ?_
  refine mo_ild okX9_told (j := 9) (v := 0) rfl (by have := hw.1; omega) (Nat.lt_succ_self _) mi_psh_self rfl (by decide) (by decide) rfl ?_
  exact mi_ret_i okX9_told rfl rfl rfl ⟨rfl, (tp.rf.psh _).psh _⟩
set_option maxHeartbeats 4000000 in
set_option maxRecDepth 100000 in
theorem m_told_10 {X : mi_X} {h : mi_H} {M : Nat} (hw : mo_W M h) {th : Int32} (hc : h.2 M = mo_c M th mo_0) : mi_S pP X kX9_told 3 [.ref M, .int 10] h 2 16 (fun r h1 => r = some (.int 0) ∧ tp h h1) := by
  refine enX9_told (Nat.le_of_ble_eq_true rfl) ?_
  refine mi_blk okX9_told 1 (pc' := 1) (lv' := [(0, .ref M), (1, .int 10)]) (st' := [.int 3]) rfl ?_
  refine mi_newa okX9_told (mc := 1) (ms := 13) (t := 0) (N := 3) (z := .inl (fun _ => 0)) rfl rfl ac_int (by decide) (by decide) (by decide) (fun _ => rfl) (fun _ => rfl) ?_
  change mi_WX _ pP X kX9_told 3 1 13 3 [(0, .ref M), (1, .int 10)] [.ref h.1] (mi_psh h (.inl (0, 3, .inl (fun _ => 0)))) _
  refine mi_blk okX9_told 7 (pc' := 14) (lv' := [(4, .int 0), (3, .int 0), (2, .ref h.1), (0, .ref M), (1, .int 10)]) (st' := [.int 240, .int 0]) rfl ?_
  refine mi_ic_ge okX9_told rfl rfl (fun c_14 => absurd c_14 (by decide)) (fun c_14 => ?_)
  refine mi_blk okX9_told 3 (pc' := 21) (lv' := [(4, .int 0), (3, .int 0), (2, .ref h.1), (0, .ref M), (1, .int 10)]) (st' := [.int 7, .int 4, .int 10]) rfl ?_
  refine mi_callS okX9_told (mc := 1) (ms := 13) (mc' := 0) (ms' := 0) (As := [.int 10, .int 4, .int 7]) (st := []) rfl cs_RX9_46 rfl (by decide) (Nat.le_of_ble_eq_true rfl) (m_isIn_0 (by decide)) (fun r h1 q => ?_)
  obtain ⟨rfl, e9⟩ := q; have e9 := e9.symm; subst e9
  change mi_WX _ pP X kX9_told 3 1 13 24 [(4, .int 0), (3, .int 0), (2, .ref h.1), (0, .ref M), (1, .int 10)] [.int 0] (mi_psh h (.inl (0, 3, .inl (fun _ => 0)))) _
  refine mi_if_eq okX9_told rfl rfl (fun c_24 => ?_) (fun c_24 => absurd (by decide) c_24)
  refine mi_blk okX9_told 1 (pc' := 60) (lv' := [(4, .int 0), (3, .int 0), (2, .ref h.1), (0, .ref M), (1, .int 10)]) (st' := [.int 13]) rfl ?_
  refine mi_newa okX9_told (mc := 0) (ms := 0) (t := 0) (N := 13) (z := .inl (fun _ => 0)) rfl rfl ac_int (by decide) (by decide) (by decide) (fun _ => rfl) (fun _ => rfl) ?_
  change mi_WX _ pP X kX9_told 3 0 0 62 [(4, .int 0), (3, .int 0), (2, .ref h.1), (0, .ref M), (1, .int 10)] [.ref (h.1 + 1)] (mi_psh (mi_psh h (.inl (0, 3, .inl (fun _ => 0)))) (.inl (0, 13, .inl (fun _ => 0)))) _
  refine mi_blk okX9_told 3 (pc' := 65) (lv' := [(4, .int 0), (3, .int 0), (2, .ref h.1), (0, .ref M), (1, .int 10)]) (st' := [.ref M, .int 0, .ref (h.1 + 1), .ref (h.1 + 1)]) rfl ?_
  refine mi_getf okX9_told rfl fg_RX9_124 (show 6 ≤ _ by have := hw.1; omega) (Nat.lt_succ_of_lt (Nat.lt_succ_of_lt (show _ < h.1 by have := hw.1; omega))) ((mi_psh_lt (Nat.lt_succ_of_lt (show _ < h.1 by have := hw.1; omega))).trans ((mi_psh_lt (show _ < h.1 by have := hw.1; omega)).trans hc)) (v := .int 0) rfl ?_
  refine mo_ist okX9_told (j := 0) rfl (by have := hw.1; omega) (Nat.lt_succ_self _) mi_psh_self rfl (by decide) (by decide) ?_
  rw [mi_set_psh]
  refine mi_blk okX9_told 3 (pc' := 72) (lv' := [(4, .int 0), (3, .int 0), (2, .ref h.1), (0, .ref M), (1, .int 10)]) (st' := [.ref M, .int 1, .ref (h.1 + 1), .ref (h.1 + 1)]) rfl ?_
  refine mi_getf okX9_told rfl fg_RX9_21 (show 6 ≤ _ by have := hw.1; omega) (Nat.lt_succ_of_lt (Nat.lt_succ_of_lt (show _ < h.1 by have := hw.1; omega))) ((mi_psh_lt (Nat.lt_succ_of_lt (show _ < h.1 by have := hw.1; omega))).trans ((mi_psh_lt (show _ < h.1 by have := hw.1; omega)).trans hc)) (v := .ref (M + 3)) rfl ?_
  refine mi_callV okX9_told (mc := 0) (ms := 0) (mc' := 0) (ms' := 0) (b := (M + 3)) (As := []) (st := [.int 1, .ref (h.1 + 1), .ref (h.1 + 1)]) rfl cv_RX9_42 rfl (by decide) (show 6 ≤ _ by have := hw.1; omega) (Nat.lt_succ_of_lt (Nat.lt_succ_of_lt (show _ < h.1 by have := hw.1; omega))) ((mi_psh_lt (Nat.lt_succ_of_lt (show _ < h.1 by have := hw.1; omega))).trans ((mi_psh_lt (show _ < h.1 by have := hw.1; omega)).trans hw.2.2.1)) rfl (Nat.le_of_ble_eq_true rfl) (m_size (show 6 ≤ _ by have := hw.1; omega) (Nat.lt_succ_of_lt (Nat.lt_succ_of_lt (show _ < h.1 by have := hw.1; omega))) ((mi_psh_lt (Nat.lt_succ_of_lt (show _ < h.1 by have := hw.1; omega))).trans ((mi_psh_lt (show _ < h.1 by have := hw.1; omega)).trans hw.2.2.1))) (fun r h1 q => ?_)
  obtain ⟨rfl, e9⟩ := q; have e9 := e9.symm; subst e9
  change mi_WX _ pP X kX9_told 3 0 0 78 [(4, .int 0), (3, .int 0), (2, .ref h.1), (0, .ref M), (1, .int 10)] [.int 0, .int 1, .ref (h.1 + 1), .ref (h.1 + 1)] (mi_psh (mi_psh h (.inl (0, 3, .inl (fun _ => 0)))) (.inl (0, 13, .inl (va_up (fun _ => 0) 0 0)))) _
  refine mo_ist okX9_told (j := 1) rfl (by have := hw.1; omega) (Nat.lt_succ_self _) mi_psh_self rfl (by decide) (by decide) ?_
  rw [mi_set_psh]
  refine mi_blk okX9_told 3 (pc' := 82) (lv' := [(4, .int 0), (3, .int 0), (2, .ref h.1), (0, .ref M), (1, .int 10)]) (st' := [.ref M, .int 2, .ref (h.1 + 1), .ref (h.1 + 1)]) rfl ?_
  refine mi_getf okX9_told rfl fg_RX9_127 (show 6 ≤ _ by have := hw.1; omega) (Nat.lt_succ_of_lt (Nat.lt_succ_of_lt (show _ < h.1 by have := hw.1; omega))) ((mi_psh_lt (Nat.lt_succ_of_lt (show _ < h.1 by have := hw.1; omega))).trans ((mi_psh_lt (show _ < h.1 by have := hw.1; omega)).trans hc)) (v := .int 0) rfl ?_
  refine mo_ist okX9_told (j := 2) rfl (by have := hw.1; omega) (Nat.lt_succ_self _) mi_psh_self rfl (by decide) (by decide) ?_
  rw [mi_set_psh]
  refine mi_blk okX9_told 3 (pc' := 89) (lv' := [(4, .int 0), (3, .int 0), (2, .ref h.1), (0, .ref M), (1, .int 10)]) (st' := [.ref M, .int 3, .ref (h.1 + 1), .ref (h.1 + 1)]) rfl ?_
  refine mi_getf okX9_told rfl fg_RX9_28 (show 6 ≤ _ by have := hw.1; omega) (Nat.lt_succ_of_lt (Nat.lt_succ_of_lt (show _ < h.1 by have := hw.1; omega))) ((mi_psh_lt (Nat.lt_succ_of_lt (show _ < h.1 by have := hw.1; omega))).trans ((mi_psh_lt (show _ < h.1 by have := hw.1; omega)).trans hc)) (v := .int 4) rfl ?_
  refine mo_ist okX9_told (j := 3) rfl (by have := hw.1; omega) (Nat.lt_succ_self _) mi_psh_self rfl (by decide) (by decide) ?_
  rw [mi_set_psh]
  refine mi_blk okX9_told 3 (pc' := 96) (lv' := [(4, .int 0), (3, .int 0), (2, .ref h.1), (0, .ref M), (1, .int 10)]) (st' := [.int 0, .int 4, .ref (h.1 + 1), .ref (h.1 + 1)]) rfl ?_
  refine mo_ist okX9_told (j := 4) rfl (by have := hw.1; omega) (Nat.lt_succ_self _) mi_psh_self rfl (by decide) (by decide) ?_
  rw [mi_set_psh]
  refine mi_blk okX9_told 4 (pc' := 101) (lv' := [(4, .int 0), (3, .int 0), (2, .ref h.1), (0, .ref M), (1, .int 10)]) (st' := [.int 0, .ref h.1, .int 5, .ref (h.1 + 1), .ref (h.1 + 1)]) rfl ?_
  refine mo_ild okX9_told (j := 0) (v := 0) rfl (by have := hw.1; omega) (Nat.lt_succ_of_lt (Nat.lt_succ_self _)) ((mi_psh_lt (Nat.lt_succ_self _)).trans mi_psh_self) rfl (by decide) (by decide) rfl ?_
  refine mo_ist okX9_told (j := 5) rfl (by have := hw.1; omega) (Nat.lt_succ_self _) mi_psh_self rfl (by decide) (by decide) ?_
  rw [mi_set_psh]
  refine mi_blk okX9_told 4 (pc' := 108) (lv' := [(4, .int 0), (3, .int 0), (2, .ref h.1), (0, .ref M), (1, .int 10)]) (st' := [.int 1, .ref h.1, .int 6, .ref (h.1 + 1), .ref (h.1 + 1)]) rfl ?_
  refine mo_ild okX9_told (j := 1) (v := 0) rfl (by have := hw.1; omega) (Nat.lt_succ_of_lt (Nat.lt_succ_self _)) ((mi_psh_lt (Nat.lt_succ_self _)).trans mi_psh_self) rfl (by decide) (by decide) rfl ?_
  refine mo_ist okX9_told (j := 6) rfl (by have := hw.1; omega) (Nat.lt_succ_self _) mi_psh_self rfl (by decide) (by decide) ?_
  rw [mi_set_psh]
  refine mi_blk okX9_told 4 (pc' := 115) (lv' := [(4, .int 0), (3, .int 0), (2, .ref h.1), (0, .ref M), (1, .int 10)]) (st' := [.int 2, .ref h.1, .int 7, .ref (h.1 + 1), .ref (h.1 + 1)]) rfl ?_
  refine mo_ild okX9_told (j := 2) (v := 0) rfl (by have := hw.1; omega) (Nat.lt_succ_of_lt (Nat.lt_succ_self _)) ((mi_psh_lt (Nat.lt_succ_self _)).trans mi_psh_self) rfl (by decide) (by decide) rfl ?_
  refine mo_ist okX9_told (j := 7) rfl (by have := hw.1; omega) (Nat.lt_succ_self _) mi_psh_self rfl (by decide) (by decide) ?_
  rw [mi_set_psh]
  refine mi_blk okX9_told 3 (pc' := 121) (lv' := [(4, .int 0), (3, .int 0), (2, .ref h.1), (0, .ref M), (1, .int 10)]) (st' := [.ref M, .int 8, .ref (h.1 + 1), .ref (h.1 + 1)]) rfl ?_
  refine mi_getf okX9_told rfl fg_RX9_201 (show 6 ≤ _ by have := hw.1; omega) (Nat.lt_succ_of_lt (Nat.lt_succ_of_lt (show _ < h.1 by have := hw.1; omega))) ((mi_psh_lt (Nat.lt_succ_of_lt (show _ < h.1 by have := hw.1; omega))).trans ((mi_psh_lt (show _ < h.1 by have := hw.1; omega)).trans hc)) (v := .int 0) rfl ?_
  refine mo_ist okX9_told (j := 8) rfl (by have := hw.1; omega) (Nat.lt_succ_self _) mi_psh_self rfl (by decide) (by decide) ?_
  rw [mi_set_psh]
  refine mi_blk okX9_told 3 (pc' := 129) (lv' := [(4, .int 0), (3, .int 0), (2, .ref h.1), (0, .ref M), (1, .int 10)]) (st' := [.ref M, .int 9, .ref (h.1 + 1), .ref (h.1 + 1)]) rfl ?_
  refine mi_getf okX9_told rfl fg_RX9_214 (show 6 ≤ _ by have := hw.1; omega) (Nat.lt_succ_of_lt (Nat.lt_succ_of_lt (show _ < h.1 by have := hw.1; omega))) ((mi_psh_lt (Nat.lt_succ_of_lt (show _ < h.1 by have := hw.1; omega))).trans ((mi_psh_lt (show _ < h.1 by have := hw.1; omega)).trans hc)) (v := .int 0) rfl ?_
  refine mo_ist okX9_told (j := 9) rfl (by have := hw.1; omega) (Nat.lt_succ_self _) mi_psh_self rfl (by decide) (by decide) ?_
  rw [mi_set_psh]
  refine mi_blk okX9_told 3 (pc' := 137) (lv' := [(4, .int 0), (3, .int 0), (2, .ref h.1), (0, .ref M), (1, .int 10)]) (st' := [.ref M, .int 10, .ref (h.1 + 1), .ref (h.1 + 1)]) rfl ?_
  refine mi_getf okX9_told rfl fg_RX9_120 (show 6 ≤ _ by have := hw.1; omega) (Nat.lt_succ_of_lt (Nat.lt_succ_of_lt (show _ < h.1 by have := hw.1; omega))) ((mi_psh_lt (Nat.lt_succ_of_lt (show _ < h.1 by have := hw.1; omega))).trans ((mi_psh_lt (show _ < h.1 by have := hw.1; omega)).trans hc)) (v := .int 0) rfl ?_
  refine mi_callS okX9_told (mc := 0) (ms := 0) (mc' := 0) (ms' := 0) (As := [.int 0]) (st := [.int 10, .ref (h.1 + 1), .ref (h.1 + 1)]) rfl cs_RX9_217 rfl (by decide) (Nat.le_of_ble_eq_true rfl) m_one_0 (fun r h1 q => ?_)
  obtain ⟨rfl, e9⟩ := q; have e9 := e9.symm; subst e9
  change mi_WX _ pP X kX9_told 3 0 0 143 [(4, .int 0), (3, .int 0), (2, .ref h.1), (0, .ref M), (1, .int 10)] [.int 0, .int 10, .ref (h.1 + 1), .ref (h.1 + 1)] (mi_psh (mi_psh h (.inl (0, 3, .inl (fun _ => 0)))) (.inl (0, 13, .inl (va_up (va_up (va_up (va_up (va_up (va_up (va_up (va_up (va_up (va_up (fun _ => 0) 0 0) 1 0) 2 0) 3 4) 4 0) 5 0) 6 0) 7 0) 8 0) 9 0)))) _
  refine mo_ist okX9_told (j := 10) rfl (by have := hw.1; omega) (Nat.lt_succ_self _) mi_psh_self rfl (by decide) (by decide) ?_
  rw [mi_set_psh]
  refine mi_blk okX9_told 3 (pc' := 148) (lv' := [(4, .int 0), (3, .int 0), (2, .ref h.1), (0, .ref M), (1, .int 10)]) (st' := [.ref M, .int 11, .ref (h.1 + 1), .ref (h.1 + 1)]) rfl ?_
  refine mi_getf okX9_told rfl fg_RX9_181 (show 6 ≤ _ by have := hw.1; omega) (Nat.lt_succ_of_lt (Nat.lt_succ_of_lt (show _ < h.1 by have := hw.1; omega))) ((mi_psh_lt (Nat.lt_succ_of_lt (show _ < h.1 by have := hw.1; omega))).trans ((mi_psh_lt (show _ < h.1 by have := hw.1; omega)).trans hc)) (v := .int 0) rfl ?_
  refine mo_ist okX9_told (j := 11) rfl (by have := hw.1; omega) (Nat.lt_succ_self _) mi_psh_self rfl (by decide) (by decide) ?_
  rw [mi_set_psh]
  refine mi_blk okX9_told 3 (pc' := 156) (lv' := [(4, .int 0), (3, .int 0), (2, .ref h.1), (0, .ref M), (1, .int 10)]) (st' := [.ref M, .int 12, .ref (h.1 + 1), .ref (h.1 + 1)]) rfl ?_
  refine mi_getf okX9_told rfl fg_RX9_178 (show 6 ≤ _ by have := hw.1; omega) (Nat.lt_succ_of_lt (Nat.lt_succ_of_lt (show _ < h.1 by have := hw.1; omega))) ((mi_psh_lt (Nat.lt_succ_of_lt (show _ < h.1 by have := hw.1; omega))).trans ((mi_psh_lt (show _ < h.1 by have := hw.1; omega)).trans hc)) (v := .int 0) rfl ?_
  refine mi_callS okX9_told (mc := 0) (ms := 0) (mc' := 0) (ms' := 0) (As := [.int 0]) (st := [.int 12, .ref (h.1 + 1), .ref (h.1 + 1)]) rfl cs_RX9_217 rfl (by decide) (Nat.le_of_ble_eq_true rfl) m_one_0 (fun r h1 q => ?_)
  obtain ⟨rfl, e9⟩ := q; have e9 := e9.symm; subst e9
  change mi_WX _ pP X kX9_told 3 0 0 162 [(4, .int 0), (3, .int 0), (2, .ref h.1), (0, .ref M), (1, .int 10)] [.int 0, .int 12, .ref (h.1 + 1), .ref (h.1 + 1)] (mi_psh (mi_psh h (.inl (0, 3, .inl (fun _ => 0)))) (.inl (0, 13, .inl (va_up (va_up (va_up (va_up (va_up (va_up (va_up (va_up (va_up (va_up (va_up (va_up (fun _ => 0) 0 0) 1 0) 2 0) 3 4) 4 0) 5 0) 6 0) 7 0) 8 0) 9 0) 10 0) 11 0)))) _
  refine mo_ist okX9_told (j := 12) rfl (by have := hw.1; omega) (Nat.lt_succ_self _) mi_psh_self rfl (by decide) (by decide) ?_
  rw [mi_set_psh]
  refine mi_blk okX9_told 3 (pc' := 168) (lv' := [(4, .ref (h.1 + 1)), (3, .int 0), (2, .ref h.1), (0, .ref M), (1, .int 10)]) (st' := [.int 10, .ref (h.1 + 1)]) rfl ?_
  refine mo_ild okX9_told (j := 10) (v := 0) rfl (by have := hw.1; omega) (Nat.lt_succ_self _) mi_psh_self rfl (by decide) (by decide) rfl ?_
  exact mi_ret_i okX9_told rfl rfl rfl ⟨rfl, (tp.rf.psh _).psh _⟩
set_option maxHeartbeats 4000000 in
set_option maxRecDepth 100000 in
theorem m_told_11 {X : mi_X} {h : mi_H} {M : Nat} (hw : mo_W M h) {th : Int32} (hc : h.2 M = mo_c M th mo_0) : mi_S pP X kX9_told 3 [.ref M, .int 11] h 2 16 (fun r h1 => r = some (.int 0) ∧ tp h h1) := by
  refine enX9_told (Nat.le_of_ble_eq_true rfl) ?_
  refine mi_blk okX9_told 1 (pc' := 1) (lv' := [(0, .ref M), (1, .int 11)]) (st' := [.int 3]) rfl ?_
  refine mi_newa okX9_told (mc := 1) (ms := 13) (t := 0) (N := 3) (z := .inl (fun _ => 0)) rfl rfl ac_int (by decide) (by decide) (by decide) (fun _ => rfl) (fun _ => rfl) ?_
  change mi_WX _ pP X kX9_told 3 1 13 3 [(0, .ref M), (1, .int 11)] [.ref h.1] (mi_psh h (.inl (0, 3, .inl (fun _ => 0)))) _
  refine mi_blk okX9_told 7 (pc' := 14) (lv' := [(4, .int 0), (3, .int 0), (2, .ref h.1), (0, .ref M), (1, .int 11)]) (st' := [.int 240, .int 0]) rfl ?_
  refine mi_ic_ge okX9_told rfl rfl (fun c_14 => absurd c_14 (by decide)) (fun c_14 => ?_)
  refine mi_blk okX9_told 3 (pc' := 21) (lv' := [(4, .int 0), (3, .int 0), (2, .ref h.1), (0, .ref M), (1, .int 11)]) (st' := [.int 7, .int 4, .int 11]) rfl ?_
  refine mi_callS okX9_told (mc := 1) (ms := 13) (mc' := 0) (ms' := 0) (As := [.int 11, .int 4, .int 7]) (st := []) rfl cs_RX9_46 rfl (by decide) (Nat.le_of_ble_eq_true rfl) (m_isIn_0 (by decide)) (fun r h1 q => ?_)
  obtain ⟨rfl, e9⟩ := q; have e9 := e9.symm; subst e9
  change mi_WX _ pP X kX9_told 3 1 13 24 [(4, .int 0), (3, .int 0), (2, .ref h.1), (0, .ref M), (1, .int 11)] [.int 0] (mi_psh h (.inl (0, 3, .inl (fun _ => 0)))) _
  refine mi_if_eq okX9_told rfl rfl (fun c_24 => ?_) (fun c_24 => absurd (by decide) c_24)
  refine mi_blk okX9_told 1 (pc' := 60) (lv' := [(4, .int 0), (3, .int 0), (2, .ref h.1), (0, .ref M), (1, .int 11)]) (st' := [.int 13]) rfl ?_
  refine mi_newa okX9_told (mc := 0) (ms := 0) (t := 0) (N := 13) (z := .inl (fun _ => 0)) rfl rfl ac_int (by decide) (by decide) (by decide) (fun _ => rfl) (fun _ => rfl) ?_
  change mi_WX _ pP X kX9_told 3 0 0 62 [(4, .int 0), (3, .int 0), (2, .ref h.1), (0, .ref M), (1, .int 11)] [.ref (h.1 + 1)] (mi_psh (mi_psh h (.inl (0, 3, .inl (fun _ => 0)))) (.inl (0, 13, .inl (fun _ => 0)))) _
  refine mi_blk okX9_told 3 (pc' := 65) (lv' := [(4, .int 0), (3, .int 0), (2, .ref h.1), (0, .ref M), (1, .int 11)]) (st' := [.ref M, .int 0, .ref (h.1 + 1), .ref (h.1 + 1)]) rfl ?_
  refine mi_getf okX9_told rfl fg_RX9_124 (show 6 ≤ _ by have := hw.1; omega) (Nat.lt_succ_of_lt (Nat.lt_succ_of_lt (show _ < h.1 by have := hw.1; omega))) ((mi_psh_lt (Nat.lt_succ_of_lt (show _ < h.1 by have := hw.1; omega))).trans ((mi_psh_lt (show _ < h.1 by have := hw.1; omega)).trans hc)) (v := .int 0) rfl ?_
  refine mo_ist okX9_told (j := 0) rfl (by have := hw.1; omega) (Nat.lt_succ_self _) mi_psh_self rfl (by decide) (by decide) ?_
  rw [mi_set_psh]
  refine mi_blk okX9_told 3 (pc' := 72) (lv' := [(4, .int 0), (3, .int 0), (2, .ref h.1), (0, .ref M), (1, .int 11)]) (st' := [.ref M, .int 1, .ref (h.1 + 1), .ref (h.1 + 1)]) rfl ?_
  refine mi_getf okX9_told rfl fg_RX9_21 (show 6 ≤ _ by have := hw.1; omega) (Nat.lt_succ_of_lt (Nat.lt_succ_of_lt (show _ < h.1 by have := hw.1; omega))) ((mi_psh_lt (Nat.lt_succ_of_lt (show _ < h.1 by have := hw.1; omega))).trans ((mi_psh_lt (show _ < h.1 by have := hw.1; omega)).trans hc)) (v := .ref (M + 3)) rfl ?_
  refine mi_callV okX9_told (mc := 0) (ms := 0) (mc' := 0) (ms' := 0) (b := (M + 3)) (As := []) (st := [.int 1, .ref (h.1 + 1), .ref (h.1 + 1)]) rfl cv_RX9_42 rfl (by decide) (show 6 ≤ _ by have := hw.1; omega) (Nat.lt_succ_of_lt (Nat.lt_succ_of_lt (show _ < h.1 by have := hw.1; omega))) ((mi_psh_lt (Nat.lt_succ_of_lt (show _ < h.1 by have := hw.1; omega))).trans ((mi_psh_lt (show _ < h.1 by have := hw.1; omega)).trans hw.2.2.1)) rfl (Nat.le_of_ble_eq_true rfl) (m_size (show 6 ≤ _ by have := hw.1; omega) (Nat.lt_succ_of_lt (Nat.lt_succ_of_lt (show _ < h.1 by have := hw.1; omega))) ((mi_psh_lt (Nat.lt_succ_of_lt (show _ < h.1 by have := hw.1; omega))).trans ((mi_psh_lt (show _ < h.1 by have := hw.1; omega)).trans hw.2.2.1))) (fun r h1 q => ?_)
  obtain ⟨rfl, e9⟩ := q; have e9 := e9.symm; subst e9
  change mi_WX _ pP X kX9_told 3 0 0 78 [(4, .int 0), (3, .int 0), (2, .ref h.1), (0, .ref M), (1, .int 11)] [.int 0, .int 1, .ref (h.1 + 1), .ref (h.1 + 1)] (mi_psh (mi_psh h (.inl (0, 3, .inl (fun _ => 0)))) (.inl (0, 13, .inl (va_up (fun _ => 0) 0 0)))) _
  refine mo_ist okX9_told (j := 1) rfl (by have := hw.1; omega) (Nat.lt_succ_self _) mi_psh_self rfl (by decide) (by decide) ?_
  rw [mi_set_psh]
  refine mi_blk okX9_told 3 (pc' := 82) (lv' := [(4, .int 0), (3, .int 0), (2, .ref h.1), (0, .ref M), (1, .int 11)]) (st' := [.ref M, .int 2, .ref (h.1 + 1), .ref (h.1 + 1)]) rfl ?_
  refine mi_getf okX9_told rfl fg_RX9_127 (show 6 ≤ _ by have := hw.1; omega) (Nat.lt_succ_of_lt (Nat.lt_succ_of_lt (show _ < h.1 by have := hw.1; omega))) ((mi_psh_lt (Nat.lt_succ_of_lt (show _ < h.1 by have := hw.1; omega))).trans ((mi_psh_lt (show _ < h.1 by have := hw.1; omega)).trans hc)) (v := .int 0) rfl ?_
  refine mo_ist okX9_told (j := 2) rfl (by have := hw.1; omega) (Nat.lt_succ_self _) mi_psh_self rfl (by decide) (by decide) ?_
  rw [mi_set_psh]
  refine mi_blk okX9_told 3 (pc' := 89) (lv' := [(4, .int 0), (3, .int 0), (2, .ref h.1), (0, .ref M), (1, .int 11)]) (st' := [.ref M, .int 3, .ref (h.1 + 1), .ref (h.1 + 1)]) rfl ?_
  refine mi_getf okX9_told rfl fg_RX9_28 (show 6 ≤ _ by have := hw.1; omega) (Nat.lt_succ_of_lt (Nat.lt_succ_of_lt (show _ < h.1 by have := hw.1; omega))) ((mi_psh_lt (Nat.lt_succ_of_lt (show _ < h.1 by have := hw.1; omega))).trans ((mi_psh_lt (show _ < h.1 by have := hw.1; omega)).trans hc)) (v := .int 4) rfl ?_
  refine mo_ist okX9_told (j := 3) rfl (by have := hw.1; omega) (Nat.lt_succ_self _) mi_psh_self rfl (by decide) (by decide) ?_
  rw [mi_set_psh]
  refine mi_blk okX9_told 3 (pc' := 96) (lv' := [(4, .int 0), (3, .int 0), (2, .ref h.1), (0, .ref M), (1, .int 11)]) (st' := [.int 0, .int 4, .ref (h.1 + 1), .ref (h.1 + 1)]) rfl ?_
  refine mo_ist okX9_told (j := 4) rfl (by have := hw.1; omega) (Nat.lt_succ_self _) mi_psh_self rfl (by decide) (by decide) ?_
  rw [mi_set_psh]
  refine mi_blk okX9_told 4 (pc' := 101) (lv' := [(4, .int 0), (3, .int 0), (2, .ref h.1), (0, .ref M), (1, .int 11)]) (st' := [.int 0, .ref h.1, .int 5, .ref (h.1 + 1), .ref (h.1 + 1)]) rfl ?_
  refine mo_ild okX9_told (j := 0) (v := 0) rfl (by have := hw.1; omega) (Nat.lt_succ_of_lt (Nat.lt_succ_self _)) ((mi_psh_lt (Nat.lt_succ_self _)).trans mi_psh_self) rfl (by decide) (by decide) rfl ?_
  refine mo_ist okX9_told (j := 5) rfl (by have := hw.1; omega) (Nat.lt_succ_self _) mi_psh_self rfl (by decide) (by decide) ?_
  rw [mi_set_psh]
  refine mi_blk okX9_told 4 (pc' := 108) (lv' := [(4, .int 0), (3, .int 0), (2, .ref h.1), (0, .ref M), (1, .int 11)]) (st' := [.int 1, .ref h.1, .int 6, .ref (h.1 + 1), .ref (h.1 + 1)]) rfl ?_
  refine mo_ild okX9_told (j := 1) (v := 0) rfl (by have := hw.1; omega) (Nat.lt_succ_of_lt (Nat.lt_succ_self _)) ((mi_psh_lt (Nat.lt_succ_self _)).trans mi_psh_self) rfl (by decide) (by decide) rfl ?_
  refine mo_ist okX9_told (j := 6) rfl (by have := hw.1; omega) (Nat.lt_succ_self _) mi_psh_self rfl (by decide) (by decide) ?_
  rw [mi_set_psh]
  refine mi_blk okX9_told 4 (pc' := 115) (lv' := [(4, .int 0), (3, .int 0), (2, .ref h.1), (0, .ref M), (1, .int 11)]) (st' := [.int 2, .ref h.1, .int 7, .ref (h.1 + 1), .ref (h.1 + 1)]) rfl ?_
  refine mo_ild okX9_told (j := 2) (v := 0) rfl (by have := hw.1; omega) (Nat.lt_succ_of_lt (Nat.lt_succ_self _)) ((mi_psh_lt (Nat.lt_succ_self _)).trans mi_psh_self) rfl (by decide) (by decide) rfl ?_
  refine mo_ist okX9_told (j := 7) rfl (by have := hw.1; omega) (Nat.lt_succ_self _) mi_psh_self rfl (by decide) (by decide) ?_
  rw [mi_set_psh]
  refine mi_blk okX9_told 3 (pc' := 121) (lv' := [(4, .int 0), (3, .int 0), (2, .ref h.1), (0, .ref M), (1, .int 11)]) (st' := [.ref M, .int 8, .ref (h.1 + 1), .ref (h.1 + 1)]) rfl ?_
  refine mi_getf okX9_told rfl fg_RX9_201 (show 6 ≤ _ by have := hw.1; omega) (Nat.lt_succ_of_lt (Nat.lt_succ_of_lt (show _ < h.1 by have := hw.1; omega))) ((mi_psh_lt (Nat.lt_succ_of_lt (show _ < h.1 by have := hw.1; omega))).trans ((mi_psh_lt (show _ < h.1 by have := hw.1; omega)).trans hc)) (v := .int 0) rfl ?_
  refine mo_ist okX9_told (j := 8) rfl (by have := hw.1; omega) (Nat.lt_succ_self _) mi_psh_self rfl (by decide) (by decide) ?_
  rw [mi_set_psh]
  refine mi_blk okX9_told 3 (pc' := 129) (lv' := [(4, .int 0), (3, .int 0), (2, .ref h.1), (0, .ref M), (1, .int 11)]) (st' := [.ref M, .int 9, .ref (h.1 + 1), .ref (h.1 + 1)]) rfl ?_
  refine mi_getf okX9_told rfl fg_RX9_214 (show 6 ≤ _ by have := hw.1; omega) (Nat.lt_succ_of_lt (Nat.lt_succ_of_lt (show _ < h.1 by have := hw.1; omega))) ((mi_psh_lt (Nat.lt_succ_of_lt (show _ < h.1 by have := hw.1; omega))).trans ((mi_psh_lt (show _ < h.1 by have := hw.1; omega)).trans hc)) (v := .int 0) rfl ?_
  refine mo_ist okX9_told (j := 9) rfl (by have := hw.1; omega) (Nat.lt_succ_self _) mi_psh_self rfl (by decide) (by decide) ?_
  rw [mi_set_psh]
  refine mi_blk okX9_told 3 (pc' := 137) (lv' := [(4, .int 0), (3, .int 0), (2, .ref h.1), (0, .ref M), (1, .int 11)]) (st' := [.ref M, .int 10, .ref (h.1 + 1), .ref (h.1 + 1)]) rfl ?_
  refine mi_getf okX9_told rfl fg_RX9_120 (show 6 ≤ _ by have := hw.1; omega) (Nat.lt_succ_of_lt (Nat.lt_succ_of_lt (show _ < h.1 by have := hw.1; omega))) ((mi_psh_lt (Nat.lt_succ_of_lt (show _ < h.1 by have := hw.1; omega))).trans ((mi_psh_lt (show _ < h.1 by have := hw.1; omega)).trans hc)) (v := .int 0) rfl ?_
  refine mi_callS okX9_told (mc := 0) (ms := 0) (mc' := 0) (ms' := 0) (As := [.int 0]) (st := [.int 10, .ref (h.1 + 1), .ref (h.1 + 1)]) rfl cs_RX9_217 rfl (by decide) (Nat.le_of_ble_eq_true rfl) m_one_0 (fun r h1 q => ?_)
  obtain ⟨rfl, e9⟩ := q; have e9 := e9.symm; subst e9
  change mi_WX _ pP X kX9_told 3 0 0 143 [(4, .int 0), (3, .int 0), (2, .ref h.1), (0, .ref M), (1, .int 11)] [.int 0, .int 10, .ref (h.1 + 1), .ref (h.1 + 1)] (mi_psh (mi_psh h (.inl (0, 3, .inl (fun _ => 0)))) (.inl (0, 13, .inl (va_up (va_up (va_up (va_up (va_up (va_up (va_up (va_up (va_up (va_up (fun _ => 0) 0 0) 1 0) 2 0) 3 4) 4 0) 5 0) 6 0) 7 0) 8 0) 9 0)))) _
  refine mo_ist okX9_told (j := 10) rfl (by have := hw.1; omega) (Nat.lt_succ_self _) mi_psh_self rfl (by decide) (by decide) ?_
  rw [mi_set_psh]
  refine mi_blk okX9_told 3 (pc' := 148) (lv' := [(4, .int 0), (3, .int 0), (2, .ref h.1), (0, .ref M), (1, .int 11)]) (st' := [.ref M, .int 11, .ref (h.1 + 1), .ref (h.1 + 1)]) rfl ?_
  refine mi_getf okX9_told rfl fg_RX9_181 (show 6 ≤ _ by have := hw.1; omega) (Nat.lt_succ_of_lt (Nat.lt_succ_of_lt (show _ < h.1 by have := hw.1; omega))) ((mi_psh_lt (Nat.lt_succ_of_lt (show _ < h.1 by have := hw.1; omega))).trans ((mi_psh_lt (show _ < h.1 by have := hw.1; omega)).trans hc)) (v := .int 0) rfl ?_
  refine mo_ist okX9_told (j := 11) rfl (by have := hw.1; omega) (Nat.lt_succ_self _) mi_psh_self rfl (by decide) (by decide) ?_
  rw [mi_set_psh]
  refine mi_blk okX9_told 3 (pc' := 156) (lv' := [(4, .int 0), (3, .int 0), (2, .ref h.1), (0, .ref M), (1, .int 11)]) (st' := [.ref M, .int 12, .ref (h.1 + 1), .ref (h.1 + 1)]) rfl ?_
  refine mi_getf okX9_told rfl fg_RX9_178 (show 6 ≤ _ by have := hw.1; omega) (Nat.lt_succ_of_lt (Nat.lt_succ_of_lt (show _ < h.1 by have := hw.1; omega))) ((mi_psh_lt (Nat.lt_succ_of_lt (show _ < h.1 by have := hw.1; omega))).trans ((mi_psh_lt (show _ < h.1 by have := hw.1; omega)).trans hc)) (v := .int 0) rfl ?_
  refine mi_callS okX9_told (mc := 0) (ms := 0) (mc' := 0) (ms' := 0) (As := [.int 0]) (st := [.int 12, .ref (h.1 + 1), .ref (h.1 + 1)]) rfl cs_RX9_217 rfl (by decide) (Nat.le_of_ble_eq_true rfl) m_one_0 (fun r h1 q => ?_)
  obtain ⟨rfl, e9⟩ := q; have e9 := e9.symm; subst e9
  change mi_WX _ pP X kX9_told 3 0 0 162 [(4, .int 0), (3, .int 0), (2, .ref h.1), (0, .ref M), (1, .int 11)] [.int 0, .int 12, .ref (h.1 + 1), .ref (h.1 + 1)] (mi_psh (mi_psh h (.inl (0, 3, .inl (fun _ => 0)))) (.inl (0, 13, .inl (va_up (va_up (va_up (va_up (va_up (va_up (va_up (va_up (va_up (va_up (va_up (va_up (fun _ => 0) 0 0) 1 0) 2 0) 3 4) 4 0) 5 0) 6 0) 7 0) 8 0) 9 0) 10 0) 11 0)))) _
  refine mo_ist okX9_told (j := 12) rfl (by have := hw.1; omega) (Nat.lt_succ_self _) mi_psh_self rfl (by decide) (by decide) ?_
  rw [mi_set_psh]
  refine mi_blk okX9_told 3 (pc' := 168) (lv' := [(4, .ref (h.1 + 1)), (3, .int 0), (2, .ref h.1), (0, .ref M), (1, .int 11)]) (st' := [.int 11, .ref (h.1 + 1)]) rfl ?_
  refine mo_ild okX9_told (j := 11) (v := 0) rfl (by have := hw.1; omega) (Nat.lt_succ_self _) mi_psh_self rfl (by decide) (by decide) rfl ?_
  exact mi_ret_i okX9_told rfl rfl rfl ⟨rfl, (tp.rf.psh _).psh _⟩
set_option maxHeartbeats 4000000 in
set_option maxRecDepth 100000 in
theorem m_told_12 {X : mi_X} {h : mi_H} {M : Nat} (hw : mo_W M h) {th : Int32} (hc : h.2 M = mo_c M th mo_0) : mi_S pP X kX9_told 3 [.ref M, .int 12] h 2 16 (fun r h1 => r = some (.int 0) ∧ tp h h1) := by
  refine enX9_told (Nat.le_of_ble_eq_true rfl) ?_
  refine mi_blk okX9_told 1 (pc' := 1) (lv' := [(0, .ref M), (1, .int 12)]) (st' := [.int 3]) rfl ?_
  refine mi_newa okX9_told (mc := 1) (ms := 13) (t := 0) (N := 3) (z := .inl (fun _ => 0)) rfl rfl ac_int (by decide) (by decide) (by decide) (fun _ => rfl) (fun _ => rfl) ?_
  change mi_WX _ pP X kX9_told 3 1 13 3 [(0, .ref M), (1, .int 12)] [.ref h.1] (mi_psh h (.inl (0, 3, .inl (fun _ => 0)))) _
  refine mi_blk okX9_told 7 (pc' := 14) (lv' := [(4, .int 0), (3, .int 0), (2, .ref h.1), (0, .ref M), (1, .int 12)]) (st' := [.int 240, .int 0]) rfl ?_
  refine mi_ic_ge okX9_told rfl rfl (fun c_14 => absurd c_14 (by decide)) (fun c_14 => ?_)
  refine mi_blk okX9_told 3 (pc' := 21) (lv' := [(4, .int 0), (3, .int 0), (2, .ref h.1), (0, .ref M), (1, .int 12)]) (st' := [.int 7, .int 4, .int 12]) rfl ?_
  refine mi_callS okX9_told (mc := 1) (ms := 13) (mc' := 0) (ms' := 0) (As := [.int 12, .int 4, .int 7]) (st := []) rfl cs_RX9_46 rfl (by decide) (Nat.le_of_ble_eq_true rfl) (m_isIn_0 (by decide)) (fun r h1 q => ?_)
  obtain ⟨rfl, e9⟩ := q; have e9 := e9.symm; subst e9
  change mi_WX _ pP X kX9_told 3 1 13 24 [(4, .int 0), (3, .int 0), (2, .ref h.1), (0, .ref M), (1, .int 12)] [.int 0] (mi_psh h (.inl (0, 3, .inl (fun _ => 0)))) _
  refine mi_if_eq okX9_told rfl rfl (fun c_24 => ?_) (fun c_24 => absurd (by decide) c_24)
  refine mi_blk okX9_told 1 (pc' := 60) (lv' := [(4, .int 0), (3, .int 0), (2, .ref h.1), (0, .ref M), (1, .int 12)]) (st' := [.int 13]) rfl ?_
  refine mi_newa okX9_told (mc := 0) (ms := 0) (t := 0) (N := 13) (z := .inl (fun _ => 0)) rfl rfl ac_int (by decide) (by decide) (by decide) (fun _ => rfl) (fun _ => rfl) ?_
  change mi_WX _ pP X kX9_told 3 0 0 62 [(4, .int 0), (3, .int 0), (2, .ref h.1), (0, .ref M), (1, .int 12)] [.ref (h.1 + 1)] (mi_psh (mi_psh h (.inl (0, 3, .inl (fun _ => 0)))) (.inl (0, 13, .inl (fun _ => 0)))) _
  refine mi_blk okX9_told 3 (pc' := 65) (lv' := [(4, .int 0), (3, .int 0), (2, .ref h.1), (0, .ref M), (1, .int 12)]) (st' := [.ref M, .int 0, .ref (h.1 + 1), .ref (h.1 + 1)]) rfl ?_
  refine mi_getf okX9_told rfl fg_RX9_124 (show 6 ≤ _ by have := hw.1; omega) (Nat.lt_succ_of_lt (Nat.lt_succ_of_lt (show _ < h.1 by have := hw.1; omega))) ((mi_psh_lt (Nat.lt_succ_of_lt (show _ < h.1 by have := hw.1; omega))).trans ((mi_psh_lt (show _ < h.1 by have := hw.1; omega)).trans hc)) (v := .int 0) rfl ?_
  refine mo_ist okX9_told (j := 0) rfl (by have := hw.1; omega) (Nat.lt_succ_self _) mi_psh_self rfl (by decide) (by decide) ?_
  rw [mi_set_psh]
  refine mi_blk okX9_told 3 (pc' := 72) (lv' := [(4, .int 0), (3, .int 0), (2, .ref h.1), (0, .ref M), (1, .int 12)]) (st' := [.ref M, .int 1, .ref (h.1 + 1), .ref (h.1 + 1)]) rfl ?_
  refine mi_getf okX9_told rfl fg_RX9_21 (show 6 ≤ _ by have := hw.1; omega) (Nat.lt_succ_of_lt (Nat.lt_succ_of_lt (show _ < h.1 by have := hw.1; omega))) ((mi_psh_lt (Nat.lt_succ_of_lt (show _ < h.1 by have := hw.1; omega))).trans ((mi_psh_lt (show _ < h.1 by have := hw.1; omega)).trans hc)) (v := .ref (M + 3)) rfl ?_
  refine mi_callV okX9_told (mc := 0) (ms := 0) (mc' := 0) (ms' := 0) (b := (M + 3)) (As := []) (st := [.int 1, .ref (h.1 + 1), .ref (h.1 + 1)]) rfl cv_RX9_42 rfl (by decide) (show 6 ≤ _ by have := hw.1; omega) (Nat.lt_succ_of_lt (Nat.lt_succ_of_lt (show _ < h.1 by have := hw.1; omega))) ((mi_psh_lt (Nat.lt_succ_of_lt (show _ < h.1 by have := hw.1; omega))).trans ((mi_psh_lt (show _ < h.1 by have := hw.1; omega)).trans hw.2.2.1)) rfl (Nat.le_of_ble_eq_true rfl) (m_size (show 6 ≤ _ by have := hw.1; omega) (Nat.lt_succ_of_lt (Nat.lt_succ_of_lt (show _ < h.1 by have := hw.1; omega))) ((mi_psh_lt (Nat.lt_succ_of_lt (show _ < h.1 by have := hw.1; omega))).trans ((mi_psh_lt (show _ < h.1 by have := hw.1; omega)).trans hw.2.2.1))) (fun r h1 q => ?_)
  obtain ⟨rfl, e9⟩ := q; have e9 := e9.symm; subst e9
  change mi_WX _ pP X kX9_told 3 0 0 78 [(4, .int 0), (3, .int 0), (2, .ref h.1), (0, .ref M), (1, .int 12)] [.int 0, .int 1, .ref (h.1 + 1), .ref (h.1 + 1)] (mi_psh (mi_psh h (.inl (0, 3, .inl (fun _ => 0)))) (.inl (0, 13, .inl (va_up (fun _ => 0) 0 0)))) _
  refine mo_ist okX9_told (j := 1) rfl (by have := hw.1; omega) (Nat.lt_succ_self _) mi_psh_self rfl (by decide) (by decide) ?_
  rw [mi_set_psh]
  refine mi_blk okX9_told 3 (pc' := 82) (lv' := [(4, .int 0), (3, .int 0), (2, .ref h.1), (0, .ref M), (1, .int 12)]) (st' := [.ref M, .int 2, .ref (h.1 + 1), .ref (h.1 + 1)]) rfl ?_
  refine mi_getf okX9_told rfl fg_RX9_127 (show 6 ≤ _ by have := hw.1; omega) (Nat.lt_succ_of_lt (Nat.lt_succ_of_lt (show _ < h.1 by have := hw.1; omega))) ((mi_psh_lt (Nat.lt_succ_of_lt (show _ < h.1 by have := hw.1; omega))).trans ((mi_psh_lt (show _ < h.1 by have := hw.1; omega)).trans hc)) (v := .int 0) rfl ?_
  refine mo_ist okX9_told (j := 2) rfl (by have := hw.1; omega) (Nat.lt_succ_self _) mi_psh_self rfl (by decide) (by decide) ?_
  rw [mi_set_psh]
  refine mi_blk okX9_told 3 (pc' := 89) (lv' := [(4, .int 0), (3, .int 0), (2, .ref h.1), (0, .ref M), (1, .int 12)]) (st' := [.ref M, .int 3, .ref (h.1 + 1), .ref (h.1 + 1)]) rfl ?_
  refine mi_getf okX9_told rfl fg_RX9_28 (show 6 ≤ _ by have := hw.1; omega) (Nat.lt_succ_of_lt (Nat.lt_succ_of_lt (show _ < h.1 by have := hw.1; omega))) ((mi_psh_lt (Nat.lt_succ_of_lt (show _ < h.1 by have := hw.1; omega))).trans ((mi_psh_lt (show _ < h.1 by have := hw.1; omega)).trans hc)) (v := .int 4) rfl ?_
  refine mo_ist okX9_told (j := 3) rfl (by have := hw.1; omega) (Nat.lt_succ_self _) mi_psh_self rfl (by decide) (by decide) ?_
  rw [mi_set_psh]
  refine mi_blk okX9_told 3 (pc' := 96) (lv' := [(4, .int 0), (3, .int 0), (2, .ref h.1), (0, .ref M), (1, .int 12)]) (st' := [.int 0, .int 4, .ref (h.1 + 1), .ref (h.1 + 1)]) rfl ?_
  refine mo_ist okX9_told (j := 4) rfl (by have := hw.1; omega) (Nat.lt_succ_self _) mi_psh_self rfl (by decide) (by decide) ?_
  rw [mi_set_psh]
  refine mi_blk okX9_told 4 (pc' := 101) (lv' := [(4, .int 0), (3, .int 0), (2, .ref h.1), (0, .ref M), (1, .int 12)]) (st' := [.int 0, .ref h.1, .int 5, .ref (h.1 + 1), .ref (h.1 + 1)]) rfl ?_
  refine mo_ild okX9_told (j := 0) (v := 0) rfl (by have := hw.1; omega) (Nat.lt_succ_of_lt (Nat.lt_succ_self _)) ((mi_psh_lt (Nat.lt_succ_self _)).trans mi_psh_self) rfl (by decide) (by decide) rfl ?_
  refine mo_ist okX9_told (j := 5) rfl (by have := hw.1; omega) (Nat.lt_succ_self _) mi_psh_self rfl (by decide) (by decide) ?_
  rw [mi_set_psh]
  refine mi_blk okX9_told 4 (pc' := 108) (lv' := [(4, .int 0), (3, .int 0), (2, .ref h.1), (0, .ref M), (1, .int 12)]) (st' := [.int 1, .ref h.1, .int 6, .ref (h.1 + 1), .ref (h.1 + 1)]) rfl ?_
  refine mo_ild okX9_told (j := 1) (v := 0) rfl (by have := hw.1; omega) (Nat.lt_succ_of_lt (Nat.lt_succ_self _)) ((mi_psh_lt (Nat.lt_succ_self _)).trans mi_psh_self) rfl (by decide) (by decide) rfl ?_
  refine mo_ist okX9_told (j := 6) rfl (by have := hw.1; omega) (Nat.lt_succ_self _) mi_psh_self rfl (by decide) (by decide) ?_
  rw [mi_set_psh]
  refine mi_blk okX9_told 4 (pc' := 115) (lv' := [(4, .int 0), (3, .int 0), (2, .ref h.1), (0, .ref M), (1, .int 12)]) (st' := [.int 2, .ref h.1, .int 7, .ref (h.1 + 1), .ref (h.1 + 1)]) rfl ?_
  refine mo_ild okX9_told (j := 2) (v := 0) rfl (by have := hw.1; omega) (Nat.lt_succ_of_lt (Nat.lt_succ_self _)) ((mi_psh_lt (Nat.lt_succ_self _)).trans mi_psh_self) rfl (by decide) (by decide) rfl ?_
  refine mo_ist okX9_told (j := 7) rfl (by have := hw.1; omega) (Nat.lt_succ_self _) mi_psh_self rfl (by decide) (by decide) ?_
  rw [mi_set_psh]
  refine mi_blk okX9_told 3 (pc' := 121) (lv' := [(4, .int 0), (3, .int 0), (2, .ref h.1), (0, .ref M), (1, .int 12)]) (st' := [.ref M, .int 8, .ref (h.1 + 1), .ref (h.1 + 1)]) rfl ?_
  refine mi_getf okX9_told rfl fg_RX9_201 (show 6 ≤ _ by have := hw.1; omega) (Nat.lt_succ_of_lt (Nat.lt_succ_of_lt (show _ < h.1 by have := hw.1; omega))) ((mi_psh_lt (Nat.lt_succ_of_lt (show _ < h.1 by have := hw.1; omega))).trans ((mi_psh_lt (show _ < h.1 by have := hw.1; omega)).trans hc)) (v := .int 0) rfl ?_
  refine mo_ist okX9_told (j := 8) rfl (by have := hw.1; omega) (Nat.lt_succ_self _) mi_psh_self rfl (by decide) (by decide) ?_
  rw [mi_set_psh]
  refine mi_blk okX9_told 3 (pc' := 129) (lv' := [(4, .int 0), (3, .int 0), (2, .ref h.1), (0, .ref M), (1, .int 12)]) (st' := [.ref M, .int 9, .ref (h.1 + 1), .ref (h.1 + 1)]) rfl ?_
  refine mi_getf okX9_told rfl fg_RX9_214 (show 6 ≤ _ by have := hw.1; omega) (Nat.lt_succ_of_lt (Nat.lt_succ_of_lt (show _ < h.1 by have := hw.1; omega))) ((mi_psh_lt (Nat.lt_succ_of_lt (show _ < h.1 by have := hw.1; omega))).trans ((mi_psh_lt (show _ < h.1 by have := hw.1; omega)).trans hc)) (v := .int 0) rfl ?_
  refine mo_ist okX9_told (j := 9) rfl (by have := hw.1; omega) (Nat.lt_succ_self _) mi_psh_self rfl (by decide) (by decide) ?_
  rw [mi_set_psh]
  refine mi_blk okX9_told 3 (pc' := 137) (lv' := [(4, .int 0), (3, .int 0), (2, .ref h.1), (0, .ref M), (1, .int 12)]) (st' := [.ref M, .int 10, .ref (h.1 + 1), .ref (h.1 + 1)]) rfl ?_
  refine mi_getf okX9_told rfl fg_RX9_120 (show 6 ≤ _ by have := hw.1; omega) (Nat.lt_succ_of_lt (Nat.lt_succ_of_lt (show _ < h.1 by have := hw.1; omega))) ((mi_psh_lt (Nat.lt_succ_of_lt (show _ < h.1 by have := hw.1; omega))).trans ((mi_psh_lt (show _ < h.1 by have := hw.1; omega)).trans hc)) (v := .int 0) rfl ?_
  refine mi_callS okX9_told (mc := 0) (ms := 0) (mc' := 0) (ms' := 0) (As := [.int 0]) (st := [.int 10, .ref (h.1 + 1), .ref (h.1 + 1)]) rfl cs_RX9_217 rfl (by decide) (Nat.le_of_ble_eq_true rfl) m_one_0 (fun r h1 q => ?_)
  obtain ⟨rfl, e9⟩ := q; have e9 := e9.symm; subst e9
  change mi_WX _ pP X kX9_told 3 0 0 143 [(4, .int 0), (3, .int 0), (2, .ref h.1), (0, .ref M), (1, .int 12)] [.int 0, .int 10, .ref (h.1 + 1), .ref (h.1 + 1)] (mi_psh (mi_psh h (.inl (0, 3, .inl (fun _ => 0)))) (.inl (0, 13, .inl (va_up (va_up (va_up (va_up (va_up (va_up (va_up (va_up (va_up (va_up (fun _ => 0) 0 0) 1 0) 2 0) 3 4) 4 0) 5 0) 6 0) 7 0) 8 0) 9 0)))) _
  refine mo_ist okX9_told (j := 10) rfl (by have := hw.1; omega) (Nat.lt_succ_self _) mi_psh_self rfl (by decide) (by decide) ?_
  rw [mi_set_psh]
  refine mi_blk okX9_told 3 (pc' := 148) (lv' := [(4, .int 0), (3, .int 0), (2, .ref h.1), (0, .ref M), (1, .int 12)]) (st' := [.ref M, .int 11, .ref (h.1 + 1), .ref (h.1 + 1)]) rfl ?_
  refine mi_getf okX9_told rfl fg_RX9_181 (show 6 ≤ _ by have := hw.1; omega) (Nat.lt_succ_of_lt (Nat.lt_succ_of_lt (show _ < h.1 by have := hw.1; omega))) ((mi_psh_lt (Nat.lt_succ_of_lt (show _ < h.1 by have := hw.1; omega))).trans ((mi_psh_lt (show _ < h.1 by have := hw.1; omega)).trans hc)) (v := .int 0) rfl ?_
  refine mo_ist okX9_told (j := 11) rfl (by have := hw.1; omega) (Nat.lt_succ_self _) mi_psh_self rfl (by decide) (by decide) ?_
  rw [mi_set_psh]
  refine mi_blk okX9_told 3 (pc' := 156) (lv' := [(4, .int 0), (3, .int 0), (2, .ref h.1), (0, .ref M), (1, .int 12)]) (st' := [.ref M, .int 12, .ref (h.1 + 1), .ref (h.1 + 1)]) rfl ?_
  refine mi_getf okX9_told rfl fg_RX9_178 (show 6 ≤ _ by have := hw.1; omega) (Nat.lt_succ_of_lt (Nat.lt_succ_of_lt (show _ < h.1 by have := hw.1; omega))) ((mi_psh_lt (Nat.lt_succ_of_lt (show _ < h.1 by have := hw.1; omega))).trans ((mi_psh_lt (show _ < h.1 by have := hw.1; omega)).trans hc)) (v := .int 0) rfl ?_
  refine mi_callS okX9_told (mc := 0) (ms := 0) (mc' := 0) (ms' := 0) (As := [.int 0]) (st := [.int 12, .ref (h.1 + 1), .ref (h.1 + 1)]) rfl cs_RX9_217 rfl (by decide) (Nat.le_of_ble_eq_true rfl) m_one_0 (fun r h1 q => ?_)
  obtain ⟨rfl, e9⟩ := q; have e9 := e9.symm; subst e9
  change mi_WX _ pP X kX9_told 3 0 0 162 [(4, .int 0), (3, .int 0), (2, .ref h.1), (0, .ref M), (1, .int 12)] [.int 0, .int 12, .ref (h.1 + 1), .ref (h.1 + 1)] (mi_psh (mi_psh h (.inl (0, 3, .inl (fun _ => 0)))) (.inl (0, 13, .inl (va_up (va_up (va_up (va_up (va_up (va_up (va_up (va_up (va_up (va_up (va_up (va_up (fun _ => 0) 0 0) 1 0) 2 0) 3 4) 4 0) 5 0) 6 0) 7 0) 8 0) 9 0) 10 0) 11 0)))) _
  refine mo_ist okX9_told (j := 12) rfl (by have := hw.1; omega) (Nat.lt_succ_self _) mi_psh_self rfl (by decide) (by decide) ?_
  rw [mi_set_psh]
  refine mi_blk okX9_told 3 (pc' := 168) (lv' := [(4, .ref (h.1 + 1)), (3, .int 0), (2, .ref h.1), (0, .ref M), (1, .int 12)]) (st' := [.int 12, .ref (h.1 + 1)]) rfl ?_
  refine mo_ild okX9_told (j := 12) (v := 0) rfl (by have := hw.1; omega) (Nat.lt_succ_self _) mi_psh_self rfl (by decide) (by decide) rfl ?_
  exact mi_ret_i okX9_told rfl rfl rfl ⟨rfl, (tp.rf.psh _).psh _⟩
set_option maxHeartbeats 4000000 in
set_option maxRecDepth 100000 in
theorem m_many_0 {X : mi_X} {h : mi_H} {M : Nat} (hw : mo_W M h) (hc : h.2 M = mo_c M 0 mo_0) : mi_S pP X kX9_many 4 [.ref M, .int 0] h 2 16 (fun r h1 => r = some (.int 0) ∧ mp M h 0 h1) := by
  refine enX9_many (Nat.le_of_ble_eq_true rfl) ?_
  refine mi_blk okX9_many 4 (pc' := 5) (lv' := [(0, .ref M), (1, .int 0)]) (st' := [.int 12, .int 0, .int 0, .ref M]) rfl ?_
  refine mi_callS okX9_many (mc := 2) (ms := 16) (mc' := 0) (ms' := 0) (As := [.int 0, .int 0, .int 12]) (st := [.ref M]) rfl cs_RX9_46 rfl (by decide) (Nat.le_of_ble_eq_true rfl) (m_isIn_1 (by decide) (by decide)) (fun r h1 q => ?_)
  obtain ⟨rfl, e9⟩ := q; have e9 := e9.symm; subst e9
  change mi_WX _ pP X kX9_many 4 2 16 8 [(0, .ref M), (1, .int 0)] [.int 1, .ref M] h _
  refine mi_if_ne okX9_many rfl rfl (fun c_8 => ?_) (fun c_8 => absurd c_8 (by decide))
  refine mi_blk okX9_many 2 (pc' := 17) (lv' := [(0, .ref M), (1, .int 0)]) (st' := [.int 1, .int 0, .ref M]) rfl ?_
  refine mi_callV okX9_many (mc := 2) (ms := 16) (mc' := 0) (ms' := 0) (b := M) (As := [.int 0, .int 1]) (st := []) rfl cv_RX9_130 rfl (by decide) (show 6 ≤ _ by have := hw.1; omega) (show _ < h.1 by have := hw.1; omega) hc rfl (Nat.le_of_ble_eq_true rfl) (m_start_0 (u := (0, 0, 0, 4, 0, 0, 0, 0, 0)) (show 6 ≤ _ by have := hw.1; omega) (show _ < h.1 by have := hw.1; omega) hc) (fun r h1 q => ?_)
  obtain ⟨rfl, e9⟩ := q; subst e9
  change mi_WX _ pP X kX9_many 4 2 16 20 [(0, .ref M), (1, .int 0)] [.int 0] (mi_set h M (.inr (9, [.int 0, .ref (M + 1), .ref (M + 2), .ref (M + 3), .ref (M + 4), .int 0, .int 0, .int 0, .int 4, .ref (M + 5), .int 0, .double 0, .int 0, .int 0, .int 0]))) _
  refine mi_if_eq okX9_many rfl rfl (fun c_20 => ?_) (fun c_20 => absurd (by decide) c_20)
  refine mi_blk okX9_many 2 (pc' := 29) (lv' := [(0, .ref M), (1, .int 0)]) (st' := [.int 0, .ref M]) rfl ?_
  refine mi_callV okX9_many (mc := 0) (ms := 0) (mc' := 2) (ms' := 16) (b := M) (As := [.int 0]) (st := []) rfl cv_RX9_253 rfl (by decide) (show 6 ≤ _ by have := hw.1; omega) (show _ < h.1 by have := hw.1; omega) mi_set_self rfl (Nat.le_of_ble_eq_true rfl) (m_told_0 (hw.set _) mi_set_self) (fun r h1 q => ?_)
  obtain ⟨rfl, e9⟩ := q
  change mi_WX _ pP X kX9_many 4 0 0 32 [(0, .ref M), (1, .int 0)] [.int 0] h1 _
  exact mi_ret_i okX9_many rfl rfl rfl ⟨rfl, (mp.set mo_0).tp (show M < h.1 by have := hw.1; omega) e9⟩
set_option maxHeartbeats 4000000 in
set_option maxRecDepth 100000 in
theorem m_many_1 {X : mi_X} {h : mi_H} {M : Nat} (hw : mo_W M h) (hc : h.2 M = mo_c M 0 mo_0) : mi_S pP X kX9_many 4 [.ref M, .int 1] h 2 16 (fun r h1 => r = some (.int 0) ∧ mp M h 0 h1) := by
  refine enX9_many (Nat.le_of_ble_eq_true rfl) ?_
  refine mi_blk okX9_many 4 (pc' := 5) (lv' := [(0, .ref M), (1, .int 1)]) (st' := [.int 12, .int 0, .int 1, .ref M]) rfl ?_
  refine mi_callS okX9_many (mc := 2) (ms := 16) (mc' := 0) (ms' := 0) (As := [.int 1, .int 0, .int 12]) (st := [.ref M]) rfl cs_RX9_46 rfl (by decide) (Nat.le_of_ble_eq_true rfl) (m_isIn_1 (by decide) (by decide)) (fun r h1 q => ?_)
  obtain ⟨rfl, e9⟩ := q; have e9 := e9.symm; subst e9
  change mi_WX _ pP X kX9_many 4 2 16 8 [(0, .ref M), (1, .int 1)] [.int 1, .ref M] h _
  refine mi_if_ne okX9_many rfl rfl (fun c_8 => ?_) (fun c_8 => absurd c_8 (by decide))
  refine mi_blk okX9_many 2 (pc' := 17) (lv' := [(0, .ref M), (1, .int 1)]) (st' := [.int 1, .int 0, .ref M]) rfl ?_
  refine mi_callV okX9_many (mc := 2) (ms := 16) (mc' := 0) (ms' := 0) (b := M) (As := [.int 0, .int 1]) (st := []) rfl cv_RX9_130 rfl (by decide) (show 6 ≤ _ by have := hw.1; omega) (show _ < h.1 by have := hw.1; omega) hc rfl (Nat.le_of_ble_eq_true rfl) (m_start_0 (u := (0, 0, 0, 4, 0, 0, 0, 0, 0)) (show 6 ≤ _ by have := hw.1; omega) (show _ < h.1 by have := hw.1; omega) hc) (fun r h1 q => ?_)
  obtain ⟨rfl, e9⟩ := q; subst e9
  change mi_WX _ pP X kX9_many 4 2 16 20 [(0, .ref M), (1, .int 1)] [.int 0] (mi_set h M (.inr (9, [.int 0, .ref (M + 1), .ref (M + 2), .ref (M + 3), .ref (M + 4), .int 0, .int 0, .int 0, .int 4, .ref (M + 5), .int 0, .double 0, .int 0, .int 0, .int 0]))) _
  refine mi_if_eq okX9_many rfl rfl (fun c_20 => ?_) (fun c_20 => absurd (by decide) c_20)
  refine mi_blk okX9_many 2 (pc' := 29) (lv' := [(0, .ref M), (1, .int 1)]) (st' := [.int 1, .ref M]) rfl ?_
  refine mi_callV okX9_many (mc := 0) (ms := 0) (mc' := 2) (ms' := 16) (b := M) (As := [.int 1]) (st := []) rfl cv_RX9_253 rfl (by decide) (show 6 ≤ _ by have := hw.1; omega) (show _ < h.1 by have := hw.1; omega) mi_set_self rfl (Nat.le_of_ble_eq_true rfl) (m_told_1 (hw.set _) mi_set_self) (fun r h1 q => ?_)
  obtain ⟨rfl, e9⟩ := q
  change mi_WX _ pP X kX9_many 4 0 0 32 [(0, .ref M), (1, .int 1)] [.int 0] h1 _
  exact mi_ret_i okX9_many rfl rfl rfl ⟨rfl, (mp.set mo_0).tp (show M < h.1 by have := hw.1; omega) e9⟩
set_option maxHeartbeats 4000000 in
set_option maxRecDepth 100000 in
theorem m_many_2 {X : mi_X} {h : mi_H} {M : Nat} (hw : mo_W M h) (hc : h.2 M = mo_c M 0 mo_0) : mi_S pP X kX9_many 4 [.ref M, .int 2] h 2 16 (fun r h1 => r = some (.int 0) ∧ mp M h 0 h1) := by
  refine enX9_many (Nat.le_of_ble_eq_true rfl) ?_
  refine mi_blk okX9_many 4 (pc' := 5) (lv' := [(0, .ref M), (1, .int 2)]) (st' := [.int 12, .int 0, .int 2, .ref M]) rfl ?_
  refine mi_callS okX9_many (mc := 2) (ms := 16) (mc' := 0) (ms' := 0) (As := [.int 2, .int 0, .int 12]) (st := [.ref M]) rfl cs_RX9_46 rfl (by decide) (Nat.le_of_ble_eq_true rfl) (m_isIn_1 (by decide) (by decide)) (fun r h1 q => ?_)
  obtain ⟨rfl, e9⟩ := q; have e9 := e9.symm; subst e9
  change mi_WX _ pP X kX9_many 4 2 16 8 [(0, .ref M), (1, .int 2)] [.int 1, .ref M] h _
  refine mi_if_ne okX9_many rfl rfl (fun c_8 => ?_) (fun c_8 => absurd c_8 (by decide))
  refine mi_blk okX9_many 2 (pc' := 17) (lv' := [(0, .ref M), (1, .int 2)]) (st' := [.int 1, .int 0, .ref M]) rfl ?_
  refine mi_callV okX9_many (mc := 2) (ms := 16) (mc' := 0) (ms' := 0) (b := M) (As := [.int 0, .int 1]) (st := []) rfl cv_RX9_130 rfl (by decide) (show 6 ≤ _ by have := hw.1; omega) (show _ < h.1 by have := hw.1; omega) hc rfl (Nat.le_of_ble_eq_true rfl) (m_start_0 (u := (0, 0, 0, 4, 0, 0, 0, 0, 0)) (show 6 ≤ _ by have := hw.1; omega) (show _ < h.1 by have := hw.1; omega) hc) (fun r h1 q => ?_)
  obtain ⟨rfl, e9⟩ := q; subst e9
  change mi_WX _ pP X kX9_many 4 2 16 20 [(0, .ref M), (1, .int 2)] [.int 0] (mi_set h M (.inr (9, [.int 0, .ref (M + 1), .ref (M + 2), .ref (M + 3), .ref (M + 4), .int 0, .int 0, .int 0, .int 4, .ref (M + 5), .int 0, .double 0, .int 0, .int 0, .int 0]))) _
  refine mi_if_eq okX9_many rfl rfl (fun c_20 => ?_) (fun c_20 => absurd (by decide) c_20)
  refine mi_blk okX9_many 2 (pc' := 29) (lv' := [(0, .ref M), (1, .int 2)]) (st' := [.int 2, .ref M]) rfl ?_
  refine mi_callV okX9_many (mc := 0) (ms := 0) (mc' := 2) (ms' := 16) (b := M) (As := [.int 2]) (st := []) rfl cv_RX9_253 rfl (by decide) (show 6 ≤ _ by have := hw.1; omega) (show _ < h.1 by have := hw.1; omega) mi_set_self rfl (Nat.le_of_ble_eq_true rfl) (m_told_2 (hw.set _) mi_set_self) (fun r h1 q => ?_)
  obtain ⟨rfl, e9⟩ := q
  change mi_WX _ pP X kX9_many 4 0 0 32 [(0, .ref M), (1, .int 2)] [.int 0] h1 _
  exact mi_ret_i okX9_many rfl rfl rfl ⟨rfl, (mp.set mo_0).tp (show M < h.1 by have := hw.1; omega) e9⟩
set_option maxHeartbeats 4000000 in
set_option maxRecDepth 100000 in
theorem m_many_3 {X : mi_X} {h : mi_H} {M : Nat} (hw : mo_W M h) (hc : h.2 M = mo_c M 0 mo_0) : mi_S pP X kX9_many 4 [.ref M, .int 3] h 2 16 (fun r h1 => r = some (.int 4) ∧ mp M h 0 h1) := by
  refine enX9_many (Nat.le_of_ble_eq_true rfl) ?_
  refine mi_blk okX9_many 4 (pc' := 5) (lv' := [(0, .ref M), (1, .int 3)]) (st' := [.int 12, .int 0, .int 3, .ref M]) rfl ?_
  refine mi_callS okX9_many (mc := 2) (ms := 16) (mc' := 0) (ms' := 0) (As := [.int 3, .int 0, .int 12]) (st := [.ref M]) rfl cs_RX9_46 rfl (by decide) (Nat.le_of_ble_eq_true rfl) (m_isIn_1 (by decide) (by decide)) (fun r h1 q => ?_)
  obtain ⟨rfl, e9⟩ := q; have e9 := e9.symm; subst e9
  change mi_WX _ pP X kX9_many 4 2 16 8 [(0, .ref M), (1, .int 3)] [.int 1, .ref M] h _
  refine mi_if_ne okX9_many rfl rfl (fun c_8 => ?_) (fun c_8 => absurd c_8 (by decide))
  refine mi_blk okX9_many 2 (pc' := 17) (lv' := [(0, .ref M), (1, .int 3)]) (st' := [.int 1, .int 0, .ref M]) rfl ?_
  refine mi_callV okX9_many (mc := 2) (ms := 16) (mc' := 0) (ms' := 0) (b := M) (As := [.int 0, .int 1]) (st := []) rfl cv_RX9_130 rfl (by decide) (show 6 ≤ _ by have := hw.1; omega) (show _ < h.1 by have := hw.1; omega) hc rfl (Nat.le_of_ble_eq_true rfl) (m_start_0 (u := (0, 0, 0, 4, 0, 0, 0, 0, 0)) (show 6 ≤ _ by have := hw.1; omega) (show _ < h.1 by have := hw.1; omega) hc) (fun r h1 q => ?_)
  obtain ⟨rfl, e9⟩ := q; subst e9
  change mi_WX _ pP X kX9_many 4 2 16 20 [(0, .ref M), (1, .int 3)] [.int 0] (mi_set h M (.inr (9, [.int 0, .ref (M + 1), .ref (M + 2), .ref (M + 3), .ref (M + 4), .int 0, .int 0, .int 0, .int 4, .ref (M + 5), .int 0, .double 0, .int 0, .int 0, .int 0]))) _
  refine mi_if_eq okX9_many rfl rfl (fun c_20 => ?_) (fun c_20 => absurd (by decide) c_20)
  refine mi_blk okX9_many 2 (pc' := 29) (lv' := [(0, .ref M), (1, .int 3)]) (st' := [.int 3, .ref M]) rfl ?_
  refine mi_callV okX9_many (mc := 0) (ms := 0) (mc' := 2) (ms' := 16) (b := M) (As := [.int 3]) (st := []) rfl cv_RX9_253 rfl (by decide) (show 6 ≤ _ by have := hw.1; omega) (show _ < h.1 by have := hw.1; omega) mi_set_self rfl (Nat.le_of_ble_eq_true rfl) (m_told_3 (hw.set _) mi_set_self) (fun r h1 q => ?_)
  obtain ⟨rfl, e9⟩ := q
  change mi_WX _ pP X kX9_many 4 0 0 32 [(0, .ref M), (1, .int 3)] [.int 4] h1 _
  exact mi_ret_i okX9_many rfl rfl rfl ⟨rfl, (mp.set mo_0).tp (show M < h.1 by have := hw.1; omega) e9⟩
set_option maxHeartbeats 4000000 in
set_option maxRecDepth 100000 in
theorem m_many_4 {X : mi_X} {h : mi_H} {M : Nat} (hw : mo_W M h) (hc : h.2 M = mo_c M 0 mo_0) : mi_S pP X kX9_many 4 [.ref M, .int 4] h 2 16 (fun r h1 => r = some (.int 0) ∧ mp M h 0 h1) := by
  refine enX9_many (Nat.le_of_ble_eq_true rfl) ?_
  refine mi_blk okX9_many 4 (pc' := 5) (lv' := [(0, .ref M), (1, .int 4)]) (st' := [.int 12, .int 0, .int 4, .ref M]) rfl ?_
  refine mi_callS okX9_many (mc := 2) (ms := 16) (mc' := 0) (ms' := 0) (As := [.int 4, .int 0, .int 12]) (st := [.ref M]) rfl cs_RX9_46 rfl (by decide) (Nat.le_of_ble_eq_true rfl) (m_isIn_1 (by decide) (by decide)) (fun r h1 q => ?_)
  obtain ⟨rfl, e9⟩ := q; have e9 := e9.symm; subst e9
  change mi_WX _ pP X kX9_many 4 2 16 8 [(0, .ref M), (1, .int 4)] [.int 1, .ref M] h _
  refine mi_if_ne okX9_many rfl rfl (fun c_8 => ?_) (fun c_8 => absurd c_8 (by decide))
  refine mi_blk okX9_many 2 (pc' := 17) (lv' := [(0, .ref M), (1, .int 4)]) (st' := [.int 1, .int 0, .ref M]) rfl ?_
  refine mi_callV okX9_many (mc := 2) (ms := 16) (mc' := 0) (ms' := 0) (b := M) (As := [.int 0, .int 1]) (st := []) rfl cv_RX9_130 rfl (by decide) (show 6 ≤ _ by have := hw.1; omega) (show _ < h.1 by have := hw.1; omega) hc rfl (Nat.le_of_ble_eq_true rfl) (m_start_0 (u := (0, 0, 0, 4, 0, 0, 0, 0, 0)) (show 6 ≤ _ by have := hw.1; omega) (show _ < h.1 by have := hw.1; omega) hc) (fun r h1 q => ?_)
  obtain ⟨rfl, e9⟩ := q; subst e9
  change mi_WX _ pP X kX9_many 4 2 16 20 [(0, .ref M), (1, .int 4)] [.int 0] (mi_set h M (.inr (9, [.int 0, .ref (M + 1), .ref (M + 2), .ref (M + 3), .ref (M + 4), .int 0, .int 0, .int 0, .int 4, .ref (M + 5), .int 0, .double 0, .int 0, .int 0, .int 0]))) _
  refine mi_if_eq okX9_many rfl rfl (fun c_20 => ?_) (fun c_20 => absurd (by decide) c_20)
  refine mi_blk okX9_many 2 (pc' := 29) (lv' := [(0, .ref M), (1, .int 4)]) (st' := [.int 4, .ref M]) rfl ?_
  refine mi_callV okX9_many (mc := 0) (ms := 0) (mc' := 2) (ms' := 16) (b := M) (As := [.int 4]) (st := []) rfl cv_RX9_253 rfl (by decide) (show 6 ≤ _ by have := hw.1; omega) (show _ < h.1 by have := hw.1; omega) mi_set_self rfl (Nat.le_of_ble_eq_true rfl) (m_told_4 (hw.set _) mi_set_self) (fun r h1 q => ?_)
  obtain ⟨rfl, e9⟩ := q
  change mi_WX _ pP X kX9_many 4 0 0 32 [(0, .ref M), (1, .int 4)] [.int 0] h1 _
  exact mi_ret_i okX9_many rfl rfl rfl ⟨rfl, (mp.set mo_0).tp (show M < h.1 by have := hw.1; omega) e9⟩
set_option maxHeartbeats 4000000 in
set_option maxRecDepth 100000 in
theorem m_many_5 {X : mi_X} {h : mi_H} {M : Nat} (hw : mo_W M h) (hc : h.2 M = mo_c M 0 mo_0) : mi_S pP X kX9_many 4 [.ref M, .int 5] h 2 16 (fun r h1 => r = some (.int 0) ∧ mp M h 0 h1) := by
  refine enX9_many (Nat.le_of_ble_eq_true rfl) ?_
  refine mi_blk okX9_many 4 (pc' := 5) (lv' := [(0, .ref M), (1, .int 5)]) (st' := [.int 12, .int 0, .int 5, .ref M]) rfl ?_
  refine mi_callS okX9_many (mc := 2) (ms := 16) (mc' := 0) (ms' := 0) (As := [.int 5, .int 0, .int 12]) (st := [.ref M]) rfl cs_RX9_46 rfl (by decide) (Nat.le_of_ble_eq_true rfl) (m_isIn_1 (by decide) (by decide)) (fun r h1 q => ?_)
  obtain ⟨rfl, e9⟩ := q; have e9 := e9.symm; subst e9
  change mi_WX _ pP X kX9_many 4 2 16 8 [(0, .ref M), (1, .int 5)] [.int 1, .ref M] h _
  refine mi_if_ne okX9_many rfl rfl (fun c_8 => ?_) (fun c_8 => absurd c_8 (by decide))
  refine mi_blk okX9_many 2 (pc' := 17) (lv' := [(0, .ref M), (1, .int 5)]) (st' := [.int 1, .int 0, .ref M]) rfl ?_
  refine mi_callV okX9_many (mc := 2) (ms := 16) (mc' := 0) (ms' := 0) (b := M) (As := [.int 0, .int 1]) (st := []) rfl cv_RX9_130 rfl (by decide) (show 6 ≤ _ by have := hw.1; omega) (show _ < h.1 by have := hw.1; omega) hc rfl (Nat.le_of_ble_eq_true rfl) (m_start_0 (u := (0, 0, 0, 4, 0, 0, 0, 0, 0)) (show 6 ≤ _ by have := hw.1; omega) (show _ < h.1 by have := hw.1; omega) hc) (fun r h1 q => ?_)
  obtain ⟨rfl, e9⟩ := q; subst e9
  change mi_WX _ pP X kX9_many 4 2 16 20 [(0, .ref M), (1, .int 5)] [.int 0] (mi_set h M (.inr (9, [.int 0, .ref (M + 1), .ref (M + 2), .ref (M + 3), .ref (M + 4), .int 0, .int 0, .int 0, .int 4, .ref (M + 5), .int 0, .double 0, .int 0, .int 0, .int 0]))) _
  refine mi_if_eq okX9_many rfl rfl (fun c_20 => ?_) (fun c_20 => absurd (by decide) c_20)
  refine mi_blk okX9_many 2 (pc' := 29) (lv' := [(0, .ref M), (1, .int 5)]) (st' := [.int 5, .ref M]) rfl ?_
  refine mi_callV okX9_many (mc := 0) (ms := 0) (mc' := 2) (ms' := 16) (b := M) (As := [.int 5]) (st := []) rfl cv_RX9_253 rfl (by decide) (show 6 ≤ _ by have := hw.1; omega) (show _ < h.1 by have := hw.1; omega) mi_set_self rfl (Nat.le_of_ble_eq_true rfl) (m_told_5 (hw.set _) mi_set_self) (fun r h1 q => ?_)
  obtain ⟨rfl, e9⟩ := q
  change mi_WX _ pP X kX9_many 4 0 0 32 [(0, .ref M), (1, .int 5)] [.int 0] h1 _
  exact mi_ret_i okX9_many rfl rfl rfl ⟨rfl, (mp.set mo_0).tp (show M < h.1 by have := hw.1; omega) e9⟩
set_option maxHeartbeats 4000000 in
set_option maxRecDepth 100000 in
theorem m_many_6 {X : mi_X} {h : mi_H} {M : Nat} (hw : mo_W M h) (hc : h.2 M = mo_c M 0 mo_0) : mi_S pP X kX9_many 4 [.ref M, .int 6] h 2 16 (fun r h1 => r = some (.int 0) ∧ mp M h 0 h1) := by
  refine enX9_many (Nat.le_of_ble_eq_true rfl) ?_
  refine mi_blk okX9_many 4 (pc' := 5) (lv' := [(0, .ref M), (1, .int 6)]) (st' := [.int 12, .int 0, .int 6, .ref M]) rfl ?_
  refine mi_callS okX9_many (mc := 2) (ms := 16) (mc' := 0) (ms' := 0) (As := [.int 6, .int 0, .int 12]) (st := [.ref M]) rfl cs_RX9_46 rfl (by decide) (Nat.le_of_ble_eq_true rfl) (m_isIn_1 (by decide) (by decide)) (fun r h1 q => ?_)
  obtain ⟨rfl, e9⟩ := q; have e9 := e9.symm; subst e9
  change mi_WX _ pP X kX9_many 4 2 16 8 [(0, .ref M), (1, .int 6)] [.int 1, .ref M] h _
  refine mi_if_ne okX9_many rfl rfl (fun c_8 => ?_) (fun c_8 => absurd c_8 (by decide))
  refine mi_blk okX9_many 2 (pc' := 17) (lv' := [(0, .ref M), (1, .int 6)]) (st' := [.int 1, .int 0, .ref M]) rfl ?_
  refine mi_callV okX9_many (mc := 2) (ms := 16) (mc' := 0) (ms' := 0) (b := M) (As := [.int 0, .int 1]) (st := []) rfl cv_RX9_130 rfl (by decide) (show 6 ≤ _ by have := hw.1; omega) (show _ < h.1 by have := hw.1; omega) hc rfl (Nat.le_of_ble_eq_true rfl) (m_start_0 (u := (0, 0, 0, 4, 0, 0, 0, 0, 0)) (show 6 ≤ _ by have := hw.1; omega) (show _ < h.1 by have := hw.1; omega) hc) (fun r h1 q => ?_)
  obtain ⟨rfl, e9⟩ := q; subst e9
  change mi_WX _ pP X kX9_many 4 2 16 20 [(0, .ref M), (1, .int 6)] [.int 0] (mi_set h M (.inr (9, [.int 0, .ref (M + 1), .ref (M + 2), .ref (M + 3), .ref (M + 4), .int 0, .int 0, .int 0, .int 4, .ref (M + 5), .int 0, .double 0, .int 0, .int 0, .int 0]))) _
  refine mi_if_eq okX9_many rfl rfl (fun c_20 => ?_) (fun c_20 => absurd (by decide) c_20)
  refine mi_blk okX9_many 2 (pc' := 29) (lv' := [(0, .ref M), (1, .int 6)]) (st' := [.int 6, .ref M]) rfl ?_
  refine mi_callV okX9_many (mc := 0) (ms := 0) (mc' := 2) (ms' := 16) (b := M) (As := [.int 6]) (st := []) rfl cv_RX9_253 rfl (by decide) (show 6 ≤ _ by have := hw.1; omega) (show _ < h.1 by have := hw.1; omega) mi_set_self rfl (Nat.le_of_ble_eq_true rfl) (m_told_6 (hw.set _) mi_set_self) (fun r h1 q => ?_)
  obtain ⟨rfl, e9⟩ := q
  change mi_WX _ pP X kX9_many 4 0 0 32 [(0, .ref M), (1, .int 6)] [.int 0] h1 _
  exact mi_ret_i okX9_many rfl rfl rfl ⟨rfl, (mp.set mo_0).tp (show M < h.1 by have := hw.1; omega) e9⟩
set_option maxHeartbeats 4000000 in
set_option maxRecDepth 100000 in
theorem m_many_7 {X : mi_X} {h : mi_H} {M : Nat} (hw : mo_W M h) (hc : h.2 M = mo_c M 0 mo_0) : mi_S pP X kX9_many 4 [.ref M, .int 7] h 2 16 (fun r h1 => r = some (.int 0) ∧ mp M h 0 h1) := by
  refine enX9_many (Nat.le_of_ble_eq_true rfl) ?_
  refine mi_blk okX9_many 4 (pc' := 5) (lv' := [(0, .ref M), (1, .int 7)]) (st' := [.int 12, .int 0, .int 7, .ref M]) rfl ?_
  refine mi_callS okX9_many (mc := 2) (ms := 16) (mc' := 0) (ms' := 0) (As := [.int 7, .int 0, .int 12]) (st := [.ref M]) rfl cs_RX9_46 rfl (by decide) (Nat.le_of_ble_eq_true rfl) (m_isIn_1 (by decide) (by decide)) (fun r h1 q => ?_)
  obtain ⟨rfl, e9⟩ := q; have e9 := e9.symm; subst e9
  change mi_WX _ pP X kX9_many 4 2 16 8 [(0, .ref M), (1, .int 7)] [.int 1, .ref M] h _
  refine mi_if_ne okX9_many rfl rfl (fun c_8 => ?_) (fun c_8 => absurd c_8 (by decide))
  refine mi_blk okX9_many 2 (pc' := 17) (lv' := [(0, .ref M), (1, .int 7)]) (st' := [.int 1, .int 0, .ref M]) rfl ?_
  refine mi_callV okX9_many (mc := 2) (ms := 16) (mc' := 0) (ms' := 0) (b := M) (As := [.int 0, .int 1]) (st := []) rfl cv_RX9_130 rfl (by decide) (show 6 ≤ _ by have := hw.1; omega) (show _ < h.1 by have := hw.1; omega) hc rfl (Nat.le_of_ble_eq_true rfl) (m_start_0 (u := (0, 0, 0, 4, 0, 0, 0, 0, 0)) (show 6 ≤ _ by have := hw.1; omega) (show _ < h.1 by have := hw.1; omega) hc) (fun r h1 q => ?_)
  obtain ⟨rfl, e9⟩ := q; subst e9
  change mi_WX _ pP X kX9_many 4 2 16 20 [(0, .ref M), (1, .int 7)] [.int 0] (mi_set h M (.inr (9, [.int 0, .ref (M + 1), .ref (M + 2), .ref (M + 3), .ref (M + 4), .int 0, .int 0, .int 0, .int 4, .ref (M + 5), .int 0, .double 0, .int 0, .int 0, .int 0]))) _
  refine mi_if_eq okX9_many rfl rfl (fun c_20 => ?_) (fun c_20 => absurd (by decide) c_20)
  refine mi_blk okX9_many 2 (pc' := 29) (lv' := [(0, .ref M), (1, .int 7)]) (st' := [.int 7, .ref M]) rfl ?_
  refine mi_callV okX9_many (mc := 0) (ms := 0) (mc' := 2) (ms' := 16) (b := M) (As := [.int 7]) (st := []) rfl cv_RX9_253 rfl (by decide) (show 6 ≤ _ by have := hw.1; omega) (show _ < h.1 by have := hw.1; omega) mi_set_self rfl (Nat.le_of_ble_eq_true rfl) (m_told_7 (hw.set _) mi_set_self) (fun r h1 q => ?_)
  obtain ⟨rfl, e9⟩ := q
  change mi_WX _ pP X kX9_many 4 0 0 32 [(0, .ref M), (1, .int 7)] [.int 0] h1 _
  exact mi_ret_i okX9_many rfl rfl rfl ⟨rfl, (mp.set mo_0).tp (show M < h.1 by have := hw.1; omega) e9⟩
set_option maxHeartbeats 4000000 in
set_option maxRecDepth 100000 in
theorem m_many_8 {X : mi_X} {h : mi_H} {M : Nat} (hw : mo_W M h) (hc : h.2 M = mo_c M 0 mo_0) : mi_S pP X kX9_many 4 [.ref M, .int 8] h 2 16 (fun r h1 => r = some (.int 0) ∧ mp M h 0 h1) := by
  refine enX9_many (Nat.le_of_ble_eq_true rfl) ?_
  refine mi_blk okX9_many 4 (pc' := 5) (lv' := [(0, .ref M), (1, .int 8)]) (st' := [.int 12, .int 0, .int 8, .ref M]) rfl ?_
  refine mi_callS okX9_many (mc := 2) (ms := 16) (mc' := 0) (ms' := 0) (As := [.int 8, .int 0, .int 12]) (st := [.ref M]) rfl cs_RX9_46 rfl (by decide) (Nat.le_of_ble_eq_true rfl) (m_isIn_1 (by decide) (by decide)) (fun r h1 q => ?_)
  obtain ⟨rfl, e9⟩ := q; have e9 := e9.symm; subst e9
  change mi_WX _ pP X kX9_many 4 2 16 8 [(0, .ref M), (1, .int 8)] [.int 1, .ref M] h _
  refine mi_if_ne okX9_many rfl rfl (fun c_8 => ?_) (fun c_8 => absurd c_8 (by decide))
  refine mi_blk okX9_many 2 (pc' := 17) (lv' := [(0, .ref M), (1, .int 8)]) (st' := [.int 1, .int 0, .ref M]) rfl ?_
  refine mi_callV okX9_many (mc := 2) (ms := 16) (mc' := 0) (ms' := 0) (b := M) (As := [.int 0, .int 1]) (st := []) rfl cv_RX9_130 rfl (by decide) (show 6 ≤ _ by have := hw.1; omega) (show _ < h.1 by have := hw.1; omega) hc rfl (Nat.le_of_ble_eq_true rfl) (m_start_0 (u := (0, 0, 0, 4, 0, 0, 0, 0, 0)) (show 6 ≤ _ by have := hw.1; omega) (show _ < h.1 by have := hw.1; omega) hc) (fun r h1 q => ?_)
  obtain ⟨rfl, e9⟩ := q; subst e9
  change mi_WX _ pP X kX9_many 4 2 16 20 [(0, .ref M), (1, .int 8)] [.int 0] (mi_set h M (.inr (9, [.int 0, .ref (M + 1), .ref (M + 2), .ref (M + 3), .ref (M + 4), .int 0, .int 0, .int 0, .int 4, .ref (M + 5), .int 0, .double 0, .int 0, .int 0, .int 0]))) _
  refine mi_if_eq okX9_many rfl rfl (fun c_20 => ?_) (fun c_20 => absurd (by decide) c_20)
  refine mi_blk okX9_many 2 (pc' := 29) (lv' := [(0, .ref M), (1, .int 8)]) (st' := [.int 8, .ref M]) rfl ?_
  refine mi_callV okX9_many (mc := 0) (ms := 0) (mc' := 2) (ms' := 16) (b := M) (As := [.int 8]) (st := []) rfl cv_RX9_253 rfl (by decide) (show 6 ≤ _ by have := hw.1; omega) (show _ < h.1 by have := hw.1; omega) mi_set_self rfl (Nat.le_of_ble_eq_true rfl) (m_told_8 (hw.set _) mi_set_self) (fun r h1 q => ?_)
  obtain ⟨rfl, e9⟩ := q
  change mi_WX _ pP X kX9_many 4 0 0 32 [(0, .ref M), (1, .int 8)] [.int 0] h1 _
  exact mi_ret_i okX9_many rfl rfl rfl ⟨rfl, (mp.set mo_0).tp (show M < h.1 by have := hw.1; omega) e9⟩
set_option maxHeartbeats 4000000 in
set_option maxRecDepth 100000 in
theorem m_many_9 {X : mi_X} {h : mi_H} {M : Nat} (hw : mo_W M h) (hc : h.2 M = mo_c M 0 mo_0) : mi_S pP X kX9_many 4 [.ref M, .int 9] h 2 16 (fun r h1 => r = some (.int 0) ∧ mp M h 0 h1) := by
  refine enX9_many (Nat.le_of_ble_eq_true rfl) ?_
  refine mi_blk okX9_many 4 (pc' := 5) (lv' := [(0, .ref M), (1, .int 9)]) (st' := [.int 12, .int 0, .int 9, .ref M]) rfl ?_
  refine mi_callS okX9_many (mc := 2) (ms := 16) (mc' := 0) (ms' := 0) (As := [.int 9, .int 0, .int 12]) (st := [.ref M]) rfl cs_RX9_46 rfl (by decide) (Nat.le_of_ble_eq_true rfl) (m_isIn_1 (by decide) (by decide)) (fun r h1 q => ?_)
  obtain ⟨rfl, e9⟩ := q; have e9 := e9.symm; subst e9
  change mi_WX _ pP X kX9_many 4 2 16 8 [(0, .ref M), (1, .int 9)] [.int 1, .ref M] h _
  refine mi_if_ne okX9_many rfl rfl (fun c_8 => ?_) (fun c_8 => absurd c_8 (by decide))
  refine mi_blk okX9_many 2 (pc' := 17) (lv' := [(0, .ref M), (1, .int 9)]) (st' := [.int 1, .int 0, .ref M]) rfl ?_
  refine mi_callV okX9_many (mc := 2) (ms := 16) (mc' := 0) (ms' := 0) (b := M) (As := [.int 0, .int 1]) (st := []) rfl cv_RX9_130 rfl (by decide) (show 6 ≤ _ by have := hw.1; omega) (show _ < h.1 by have := hw.1; omega) hc rfl (Nat.le_of_ble_eq_true rfl) (m_start_0 (u := (0, 0, 0, 4, 0, 0, 0, 0, 0)) (show 6 ≤ _ by have := hw.1; omega) (show _ < h.1 by have := hw.1; omega) hc) (fun r h1 q => ?_)
  obtain ⟨rfl, e9⟩ := q; subst e9
  change mi_WX _ pP X kX9_many 4 2 16 20 [(0, .ref M), (1, .int 9)] [.int 0] (mi_set h M (.inr (9, [.int 0, .ref (M + 1), .ref (M + 2), .ref (M + 3), .ref (M + 4), .int 0, .int 0, .int 0, .int 4, .ref (M + 5), .int 0, .double 0, .int 0, .int 0, .int 0]))) _
  refine mi_if_eq okX9_many rfl rfl (fun c_20 => ?_) (fun c_20 => absurd (by decide) c_20)
  refine mi_blk okX9_many 2 (pc' := 29) (lv' := [(0, .ref M), (1, .int 9)]) (st' := [.int 9, .ref M]) rfl ?_
  refine mi_callV okX9_many (mc := 0) (ms := 0) (mc' := 2) (ms' := 16) (b := M) (As := [.int 9]) (st := []) rfl cv_RX9_253 rfl (by decide) (show 6 ≤ _ by have := hw.1; omega) (show _ < h.1 by have := hw.1; omega) mi_set_self rfl (Nat.le_of_ble_eq_true rfl) (m_told_9 (hw.set _) mi_set_self) (fun r h1 q => ?_)
  obtain ⟨rfl, e9⟩ := q
  change mi_WX _ pP X kX9_many 4 0 0 32 [(0, .ref M), (1, .int 9)] [.int 0] h1 _
  exact mi_ret_i okX9_many rfl rfl rfl ⟨rfl, (mp.set mo_0).tp (show M < h.1 by have := hw.1; omega) e9⟩
set_option maxHeartbeats 4000000 in
set_option maxRecDepth 100000 in
theorem m_many_10 {X : mi_X} {h : mi_H} {M : Nat} (hw : mo_W M h) (hc : h.2 M = mo_c M 0 mo_0) : mi_S pP X kX9_many 4 [.ref M, .int 10] h 2 16 (fun r h1 => r = some (.int 0) ∧ mp M h 0 h1) := by
  refine enX9_many (Nat.le_of_ble_eq_true rfl) ?_
  refine mi_blk okX9_many 4 (pc' := 5) (lv' := [(0, .ref M), (1, .int 10)]) (st' := [.int 12, .int 0, .int 10, .ref M]) rfl ?_
  refine mi_callS okX9_many (mc := 2) (ms := 16) (mc' := 0) (ms' := 0) (As := [.int 10, .int 0, .int 12]) (st := [.ref M]) rfl cs_RX9_46 rfl (by decide) (Nat.le_of_ble_eq_true rfl) (m_isIn_1 (by decide) (by decide)) (fun r h1 q => ?_)
  obtain ⟨rfl, e9⟩ := q; have e9 := e9.symm; subst e9
  change mi_WX _ pP X kX9_many 4 2 16 8 [(0, .ref M), (1, .int 10)] [.int 1, .ref M] h _
  refine mi_if_ne okX9_many rfl rfl (fun c_8 => ?_) (fun c_8 => absurd c_8 (by decide))
  refine mi_blk okX9_many 2 (pc' := 17) (lv' := [(0, .ref M), (1, .int 10)]) (st' := [.int 1, .int 0, .ref M]) rfl ?_
  refine mi_callV okX9_many (mc := 2) (ms := 16) (mc' := 0) (ms' := 0) (b := M) (As := [.int 0, .int 1]) (st := []) rfl cv_RX9_130 rfl (by decide) (show 6 ≤ _ by have := hw.1; omega) (show _ < h.1 by have := hw.1; omega) hc rfl (Nat.le_of_ble_eq_true rfl) (m_start_0 (u := (0, 0, 0, 4, 0, 0, 0, 0, 0)) (show 6 ≤ _ by have := hw.1; omega) (show _ < h.1 by have := hw.1; omega) hc) (fun r h1 q => ?_)
  obtain ⟨rfl, e9⟩ := q; subst e9
  change mi_WX _ pP X kX9_many 4 2 16 20 [(0, .ref M), (1, .int 10)] [.int 0] (mi_set h M (.inr (9, [.int 0, .ref (M + 1), .ref (M + 2), .ref (M + 3), .ref (M + 4), .int 0, .int 0, .int 0, .int 4, .ref (M + 5), .int 0, .double 0, .int 0, .int 0, .int 0]))) _
  refine mi_if_eq okX9_many rfl rfl (fun c_20 => ?_) (fun c_20 => absurd (by decide) c_20)
  refine mi_blk okX9_many 2 (pc' := 29) (lv' := [(0, .ref M), (1, .int 10)]) (st' := [.int 10, .ref M]) rfl ?_
  refine mi_callV okX9_many (mc := 0) (ms := 0) (mc' := 2) (ms' := 16) (b := M) (As := [.int 10]) (st := []) rfl cv_RX9_253 rfl (by decide) (show 6 ≤ _ by have := hw.1; omega) (show _ < h.1 by have := hw.1; omega) mi_set_self rfl (Nat.le_of_ble_eq_true rfl) (m_told_10 (hw.set _) mi_set_self) (fun r h1 q => ?_)
  obtain ⟨rfl, e9⟩ := q
  change mi_WX _ pP X kX9_many 4 0 0 32 [(0, .ref M), (1, .int 10)] [.int 0] h1 _
  exact mi_ret_i okX9_many rfl rfl rfl ⟨rfl, (mp.set mo_0).tp (show M < h.1 by have := hw.1; omega) e9⟩
set_option maxHeartbeats 4000000 in
set_option maxRecDepth 100000 in
theorem m_many_11 {X : mi_X} {h : mi_H} {M : Nat} (hw : mo_W M h) (hc : h.2 M = mo_c M 0 mo_0) : mi_S pP X kX9_many 4 [.ref M, .int 11] h 2 16 (fun r h1 => r = some (.int 0) ∧ mp M h 0 h1) := by
  refine enX9_many (Nat.le_of_ble_eq_true rfl) ?_
  refine mi_blk okX9_many 4 (pc' := 5) (lv' := [(0, .ref M), (1, .int 11)]) (st' := [.int 12, .int 0, .int 11, .ref M]) rfl ?_
  refine mi_callS okX9_many (mc := 2) (ms := 16) (mc' := 0) (ms' := 0) (As := [.int 11, .int 0, .int 12]) (st := [.ref M]) rfl cs_RX9_46 rfl (by decide) (Nat.le_of_ble_eq_true rfl) (m_isIn_1 (by decide) (by decide)) (fun r h1 q => ?_)
  obtain ⟨rfl, e9⟩ := q; have e9 := e9.symm; subst e9
  change mi_WX _ pP X kX9_many 4 2 16 8 [(0, .ref M), (1, .int 11)] [.int 1, .ref M] h _
  refine mi_if_ne okX9_many rfl rfl (fun c_8 => ?_) (fun c_8 => absurd c_8 (by decide))
  refine mi_blk okX9_many 2 (pc' := 17) (lv' := [(0, .ref M), (1, .int 11)]) (st' := [.int 1, .int 0, .ref M]) rfl ?_
  refine mi_callV okX9_many (mc := 2) (ms := 16) (mc' := 0) (ms' := 0) (b := M) (As := [.int 0, .int 1]) (st := []) rfl cv_RX9_130 rfl (by decide) (show 6 ≤ _ by have := hw.1; omega) (show _ < h.1 by have := hw.1; omega) hc rfl (Nat.le_of_ble_eq_true rfl) (m_start_0 (u := (0, 0, 0, 4, 0, 0, 0, 0, 0)) (show 6 ≤ _ by have := hw.1; omega) (show _ < h.1 by have := hw.1; omega) hc) (fun r h1 q => ?_)
  obtain ⟨rfl, e9⟩ := q; subst e9
  change mi_WX _ pP X kX9_many 4 2 16 20 [(0, .ref M), (1, .int 11)] [.int 0] (mi_set h M (.inr (9, [.int 0, .ref (M + 1), .ref (M + 2), .ref (M + 3), .ref (M + 4), .int 0, .int 0, .int 0, .int 4, .ref (M + 5), .int 0, .double 0, .int 0, .int 0, .int 0]))) _
  refine mi_if_eq okX9_many rfl rfl (fun c_20 => ?_) (fun c_20 => absurd (by decide) c_20)
  refine mi_blk okX9_many 2 (pc' := 29) (lv' := [(0, .ref M), (1, .int 11)]) (st' := [.int 11, .ref M]) rfl ?_
  refine mi_callV okX9_many (mc := 0) (ms := 0) (mc' := 2) (ms' := 16) (b := M) (As := [.int 11]) (st := []) rfl cv_RX9_253 rfl (by decide) (show 6 ≤ _ by have := hw.1; omega) (show _ < h.1 by have := hw.1; omega) mi_set_self rfl (Nat.le_of_ble_eq_true rfl) (m_told_11 (hw.set _) mi_set_self) (fun r h1 q => ?_)
  obtain ⟨rfl, e9⟩ := q
  change mi_WX _ pP X kX9_many 4 0 0 32 [(0, .ref M), (1, .int 11)] [.int 0] h1 _
  exact mi_ret_i okX9_many rfl rfl rfl ⟨rfl, (mp.set mo_0).tp (show M < h.1 by have := hw.1; omega) e9⟩
set_option maxHeartbeats 4000000 in
set_option maxRecDepth 100000 in
theorem m_many_12 {X : mi_X} {h : mi_H} {M : Nat} (hw : mo_W M h) (hc : h.2 M = mo_c M 0 mo_0) : mi_S pP X kX9_many 4 [.ref M, .int 12] h 2 16 (fun r h1 => r = some (.int 0) ∧ mp M h 0 h1) := by
  refine enX9_many (Nat.le_of_ble_eq_true rfl) ?_
  refine mi_blk okX9_many 4 (pc' := 5) (lv' := [(0, .ref M), (1, .int 12)]) (st' := [.int 12, .int 0, .int 12, .ref M]) rfl ?_
  refine mi_callS okX9_many (mc := 2) (ms := 16) (mc' := 0) (ms' := 0) (As := [.int 12, .int 0, .int 12]) (st := [.ref M]) rfl cs_RX9_46 rfl (by decide) (Nat.le_of_ble_eq_true rfl) (m_isIn_1 (by decide) (by decide)) (fun r h1 q => ?_)
  obtain ⟨rfl, e9⟩ := q; have e9 := e9.symm; subst e9
  change mi_WX _ pP X kX9_many 4 2 16 8 [(0, .ref M), (1, .int 12)] [.int 1, .ref M] h _
  refine mi_if_ne okX9_many rfl rfl (fun c_8 => ?_) (fun c_8 => absurd c_8 (by decide))
  refine mi_blk okX9_many 2 (pc' := 17) (lv' := [(0, .ref M), (1, .int 12)]) (st' := [.int 1, .int 0, .ref M]) rfl ?_
  refine mi_callV okX9_many (mc := 2) (ms := 16) (mc' := 0) (ms' := 0) (b := M) (As := [.int 0, .int 1]) (st := []) rfl cv_RX9_130 rfl (by decide) (show 6 ≤ _ by have := hw.1; omega) (show _ < h.1 by have := hw.1; omega) hc rfl (Nat.le_of_ble_eq_true rfl) (m_start_0 (u := (0, 0, 0, 4, 0, 0, 0, 0, 0)) (show 6 ≤ _ by have := hw.1; omega) (show _ < h.1 by have := hw.1; omega) hc) (fun r h1 q => ?_)
  obtain ⟨rfl, e9⟩ := q; subst e9
  change mi_WX _ pP X kX9_many 4 2 16 20 [(0, .ref M), (1, .int 12)] [.int 0] (mi_set h M (.inr (9, [.int 0, .ref (M + 1), .ref (M + 2), .ref (M + 3), .ref (M + 4), .int 0, .int 0, .int 0, .int 4, .ref (M + 5), .int 0, .double 0, .int 0, .int 0, .int 0]))) _
  refine mi_if_eq okX9_many rfl rfl (fun c_20 => ?_) (fun c_20 => absurd (by decide) c_20)
  refine mi_blk okX9_many 2 (pc' := 29) (lv' := [(0, .ref M), (1, .int 12)]) (st' := [.int 12, .ref M]) rfl ?_
  refine mi_callV okX9_many (mc := 0) (ms := 0) (mc' := 2) (ms' := 16) (b := M) (As := [.int 12]) (st := []) rfl cv_RX9_253 rfl (by decide) (show 6 ≤ _ by have := hw.1; omega) (show _ < h.1 by have := hw.1; omega) mi_set_self rfl (Nat.le_of_ble_eq_true rfl) (m_told_12 (hw.set _) mi_set_self) (fun r h1 q => ?_)
  obtain ⟨rfl, e9⟩ := q
  change mi_WX _ pP X kX9_many 4 0 0 32 [(0, .ref M), (1, .int 12)] [.int 0] h1 _
  exact mi_ret_i okX9_many rfl rfl rfl ⟨rfl, (mp.set mo_0).tp (show M < h.1 by have := hw.1; omega) e9⟩
