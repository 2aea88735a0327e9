-- what the reference tells
set_option maxHeartbeats 4000000 in
set_option maxRecDepth 100000 in
theorem m_toldOfSector_0 {X : mi_X} {h : mi_H} {M : Nat} (hw : mo_W M h) {th : Int32} {u : mo_U} (hc : h.2 M = mo_c M th u) {k : Nat} (hk : k < 240) : mi_S pP X kX9_toldOfSector 3 [.ref M, .int (nI k), .int 0] h 2 14 (fun r h1 => r = some (.int (-1)) ∧ tp h h1) := by
  refine enX9_toldOfSector (Nat.le_of_ble_eq_true rfl) ?_
  refine mi_blk okX9_toldOfSector 1 (pc' := 1) (lv' := [(0, .ref M), (1, .int (nI k)), (2, .int 0)]) (st' := [.ref M]) rfl ?_
  refine mi_getf okX9_toldOfSector rfl fg_RX9_11 (show 6 ≤ _ by have := hw.1; omega) (show _ < h.1 by have := hw.1; omega) hc (v := .ref (M + 1)) rfl ?_
  refine mi_blk okX9_toldOfSector 1 (pc' := 5) (lv' := [(0, .ref M), (1, .int (nI k)), (2, .int 0)]) (st' := [.int (nI k), .ref (M + 1)]) rfl ?_
  refine mo_aab okX9_toldOfSector (k := k) rfl hw hk ?_
  refine mi_blk okX9_toldOfSector 7 (pc' := 17) (lv' := [(5, .int 0), (4, .int 0), (3, .null), (0, .ref M), (1, .int (nI k)), (2, .int 0)]) (st' := [.int 16, .int 0]) rfl ?_
  refine mi_ic_ge okX9_toldOfSector rfl rfl (fun c_17 => absurd c_17 (by decide)) (fun c_17 => ?_)
  refine mi_blk okX9_toldOfSector 1 (pc' := 21) (lv' := [(5, .int 0), (4, .int 0), (3, .null), (0, .ref M), (1, .int (nI k)), (2, .int 0)]) (st' := [.null]) rfl ?_
  refine mi_ifnull_n okX9_toldOfSector rfl rfl ?_
  refine mi_blk okX9_toldOfSector 1 (pc' := 52) (lv' := [(5, .int 0), (4, .int 0), (3, .null), (0, .ref M), (1, .int (nI k)), (2, .int 0)]) (st' := [.null]) rfl ?_
  refine mi_callS okX9_toldOfSector (mc := 1) (ms := 9) (mc' := 1) (ms' := 5) (As := [.null]) (st := []) rfl cs_RX9_221 rfl (by decide) (Nat.le_of_ble_eq_true rfl) (m_marks (show 6 ≤ h.1 by have := hw.1; omega)) (fun r h1 q => ?_)
  obtain ⟨rfl, e9⟩ := q; subst e9
  change mi_WX _ pP X kX9_toldOfSector 3 1 9 55 [(5, .int 0), (4, .int 0), (3, .null), (0, .ref M), (1, .int (nI k)), (2, .int 0)] [.ref h.1] (mi_psh h (.inl (0, 5, .inl (va_up (va_up (va_up (va_up (va_up (fun _ => 0) 0 1) 1 0) 2 0) 3 0) 4 0)))) _
  refine mi_blk okX9_toldOfSector 4 (pc' := 63) (lv' := [(5, .ref h.1), (4, .int 0), (3, .null), (0, .ref M), (1, .int (nI k)), (2, .int 0)]) (st' := [.int 60, .int (nI k), .int 1000]) rfl ?_
  refine mi_idiv okX9_toldOfSector rfl (by decide) ?_
  refine mi_blk okX9_toldOfSector 1 (pc' := 65) (lv' := [(5, .ref h.1), (4, .int 0), (3, .null), (0, .ref M), (1, .int (nI k)), (2, .int 0)]) (st' := [.int 3, .int ((nI k) / 60), .int 1000]) rfl ?_
  refine mi_irem okX9_toldOfSector rfl (by decide) ?_
  refine mi_blk okX9_toldOfSector 4 (pc' := 71) (lv' := [(5, .ref h.1), (4, .int 0), (3, .null), (0, .ref M), (1, .int (nI k)), (2, .int 0)]) (st' := [.int 5, .int (nI k), .int 10, .int (1000 * (((nI k) / 60) - ((nI k) / 60) / 3 * 3))]) rfl ?_
  refine mi_idiv okX9_toldOfSector rfl (by decide) ?_
  refine mi_blk okX9_toldOfSector 1 (pc' := 74) (lv' := [(5, .ref h.1), (4, .int 0), (3, .null), (0, .ref M), (1, .int (nI k)), (2, .int 0)]) (st' := [.int 12, .int ((nI k) / 5), .int 10, .int (1000 * (((nI k) / 60) - ((nI k) / 60) / 3 * 3))]) rfl ?_
  refine mi_irem okX9_toldOfSector rfl (by decide) ?_
  refine mi_blk okX9_toldOfSector 4 (pc' := 79) (lv' := [(5, .ref h.1), (4, .int 0), (3, .null), (0, .ref M), (1, .int (nI k)), (2, .int 0)]) (st' := [.int 5, .int (nI k), .int ((1000 * (((nI k) / 60) - ((nI k) / 60) / 3 * 3)) + (10 * (((nI k) / 5) - ((nI k) / 5) / 12 * 12)))]) rfl ?_
  refine mi_irem okX9_toldOfSector rfl (by decide) ?_
  refine mi_blk okX9_toldOfSector 3 (pc' := 85) (lv' := [(6, .int (((1000 * (((nI k) / 60) - ((nI k) / 60) / 3 * 3)) + (10 * (((nI k) / 5) - ((nI k) / 5) / 12 * 12))) + ((nI k) - (nI k) / 5 * 5))), (5, .ref h.1), (4, .int 0), (3, .null), (0, .ref M), (1, .int (nI k)), (2, .int 0)]) (st' := [.int 9]) rfl ?_
  refine mi_newa okX9_toldOfSector (mc := 0) (ms := 0) (t := 0) (N := 9) (z := .inl (fun _ => 0)) rfl rfl ac_int (by decide) (by decide) (by decide) (fun _ => rfl) (fun _ => rfl) ?_
  change mi_WX _ pP X kX9_toldOfSector 3 0 0 87 [(6, .int (((1000 * (((nI k) / 60) - ((nI k) / 60) / 3 * 3)) + (10 * (((nI k) / 5) - ((nI k) / 5) / 12 * 12))) + ((nI k) - (nI k) / 5 * 5))), (5, .ref h.1), (4, .int 0), (3, .null), (0, .ref M), (1, .int (nI k)), (2, .int 0)] [.ref (h.1 + 1)] (mi_psh (mi_psh h (.inl (0, 5, .inl (va_up (va_up (va_up (va_up (va_up (fun _ => 0) 0 1) 1 0) 2 0) 3 0) 4 0)))) (.inl (0, 9, .inl (fun _ => 0)))) _
  refine mi_blk okX9_toldOfSector 3 (pc' := 90) (lv' := [(6, .int (((1000 * (((nI k) / 60) - ((nI k) / 60) / 3 * 3)) + (10 * (((nI k) / 5) - ((nI k) / 5) / 12 * 12))) + ((nI k) - (nI k) / 5 * 5))), (5, .ref h.1), (4, .int 0), (3, .null), (0, .ref M), (1, .int (nI k)), (2, .int 0)]) (st' := [.ref M, .int 0, .ref (h.1 + 1), .ref (h.1 + 1)]) rfl ?_
  refine mi_getf okX9_toldOfSector rfl fg_RX9_25 (show 6 ≤ _ by have := hw.1; omega) (Nat.lt_succ_of_lt (Nat.lt_succ_of_lt (show _ < h.1 by have := hw.1; omega))) ((mi_psh_lt (Nat.lt_succ_of_lt (show _ < h.1 by have := hw.1; omega))).trans ((mi_psh_lt (show _ < h.1 by have := hw.1; omega)).trans hc)) (v := .ref (M + 4)) rfl ?_
  refine mi_blk okX9_toldOfSector 1 (pc' := 94) (lv' := [(6, .int (((1000 * (((nI k) / 60) - ((nI k) / 60) / 3 * 3)) + (10 * (((nI k) / 5) - ((nI k) / 5) / 12 * 12))) + ((nI k) - (nI k) / 5 * 5))), (5, .ref h.1), (4, .int 0), (3, .null), (0, .ref M), (1, .int (nI k)), (2, .int 0)]) (st' := [.int (nI k), .ref (M + 4), .int 0, .ref (h.1 + 1), .ref (h.1 + 1)]) rfl ?_
  refine mo_iao okX9_toldOfSector (k := k) rfl ((hw.psh _).psh _) hk ?_
  refine mo_ist okX9_toldOfSector (j := 0) rfl (by have := hw.1; omega) (Nat.lt_succ_self _) mi_psh_self rfl (by decide) (by decide) ?_
  rw [mi_set_psh]
  refine mi_blk okX9_toldOfSector 3 (pc' := 99) (lv' := [(6, .int (((1000 * (((nI k) / 60) - ((nI k) / 60) / 3 * 3)) + (10 * (((nI k) / 5) - ((nI k) / 5) / 12 * 12))) + ((nI k) - (nI k) / 5 * 5))), (5, .ref h.1), (4, .int 0), (3, .null), (0, .ref M), (1, .int (nI k)), (2, .int 0)]) (st' := [.null, .int 1, .ref (h.1 + 1), .ref (h.1 + 1)]) rfl ?_
  refine mi_ifnull_n okX9_toldOfSector rfl rfl ?_
  refine mi_blk okX9_toldOfSector 1 (pc' := 107) (lv' := [(6, .int (((1000 * (((nI k) / 60) - ((nI k) / 60) / 3 * 3)) + (10 * (((nI k) / 5) - ((nI k) / 5) / 12 * 12))) + ((nI k) - (nI k) / 5 * 5))), (5, .ref h.1), (4, .int 0), (3, .null), (0, .ref M), (1, .int (nI k)), (2, .int 0)]) (st' := [.int 0, .int 1, .ref (h.1 + 1), .ref (h.1 + 1)]) rfl ?_
  refine mi_callS okX9_toldOfSector (mc := 0) (ms := 0) (mc' := 0) (ms' := 0) (As := [.int 0]) (st := [.int 1, .ref (h.1 + 1), .ref (h.1 + 1)]) rfl cs_RX9_217 rfl (by decide) (Nat.le_of_ble_eq_true rfl) m_one_0 (fun r h1 q => ?_)
  obtain ⟨rfl, e9⟩ := q; have e9 := e9.symm; subst e9
  change mi_WX _ pP X kX9_toldOfSector 3 0 0 110 [(6, .int (((1000 * (((nI k) / 60) - ((nI k) / 60) / 3 * 3)) + (10 * (((nI k) / 5) - ((nI k) / 5) / 12 * 12))) + ((nI k) - (nI k) / 5 * 5))), (5, .ref h.1), (4, .int 0), (3, .null), (0, .ref M), (1, .int (nI k)), (2, .int 0)] [.int 0, .int 1, .ref (h.1 + 1), .ref (h.1 + 1)] (mi_psh (mi_psh h (.inl (0, 5, .inl (va_up (va_up (va_up (va_up (va_up (fun _ => 0) 0 1) 1 0) 2 0) 3 0) 4 0)))) (.inl (0, 9, .inl (va_up (fun _ => 0) 0 (-1))))) _
  refine mo_ist okX9_toldOfSector (j := 1) rfl (by have := hw.1; omega) (Nat.lt_succ_self _) mi_psh_self rfl (by decide) (by decide) ?_
  rw [mi_set_psh]
  refine mi_blk okX9_toldOfSector 3 (pc' := 115) (lv' := [(6, .int (((1000 * (((nI k) / 60) - ((nI k) / 60) / 3 * 3)) + (10 * (((nI k) / 5) - ((nI k) / 5) / 12 * 12))) + ((nI k) - (nI k) / 5 * 5))), (5, .ref h.1), (4, .int 0), (3, .null), (0, .ref M), (1, .int (nI k)), (2, .int 0)]) (st' := [.int 0, .int 2, .ref (h.1 + 1), .ref (h.1 + 1)]) rfl ?_
  refine mo_ist okX9_toldOfSector (j := 2) rfl (by have := hw.1; omega) (Nat.lt_succ_self _) mi_psh_self rfl (by decide) (by decide) ?_
  rw [mi_set_psh]
  refine mi_blk okX9_toldOfSector 4 (pc' := 120) (lv' := [(6, .int (((1000 * (((nI k) / 60) - ((nI k) / 60) / 3 * 3)) + (10 * (((nI k) / 5) - ((nI k) / 5) / 12 * 12))) + ((nI k) - (nI k) / 5 * 5))), (5, .ref h.1), (4, .int 0), (3, .null), (0, .ref M), (1, .int (nI k)), (2, .int 0)]) (st' := [.int (nI k), .ref M, .int 3, .ref (h.1 + 1), .ref (h.1 + 1)]) rfl ?_
  refine mi_callV okX9_toldOfSector (mc := 0) (ms := 0) (mc' := 0) (ms' := 0) (b := M) (As := [.int (nI k)]) (st := [.int 3, .ref (h.1 + 1), .ref (h.1 + 1)]) rfl cv_RX9_104 rfl (by decide) (show 6 ≤ _ by have := hw.1; omega) (Nat.lt_succ_of_lt (Nat.lt_succ_of_lt (show _ < h.1 by have := hw.1; omega))) ((mi_psh_lt (Nat.lt_succ_of_lt (show _ < h.1 by have := hw.1; omega))).trans ((mi_psh_lt (show _ < h.1 by have := hw.1; omega)).trans hc)) rfl (Nat.le_of_ble_eq_true rfl) (m_worth ((hw.psh _).psh _) ((mi_psh_lt (Nat.lt_succ_of_lt (show _ < h.1 by have := hw.1; omega))).trans ((mi_psh_lt (show _ < h.1 by have := hw.1; omega)).trans hc)) hk) (fun r h1 q => ?_)
  obtain ⟨rfl, e9⟩ := q; have e9 := e9.symm; subst e9
  change mi_WX _ pP X kX9_toldOfSector 3 0 0 123 [(6, .int (((1000 * (((nI k) / 60) - ((nI k) / 60) / 3 * 3)) + (10 * (((nI k) / 5) - ((nI k) / 5) / 12 * 12))) + ((nI k) - (nI k) / 5 * 5))), (5, .ref h.1), (4, .int 0), (3, .null), (0, .ref M), (1, .int (nI k)), (2, .int 0)] [.int 2, .int 3, .ref (h.1 + 1), .ref (h.1 + 1)] (mi_psh (mi_psh h (.inl (0, 5, .inl (va_up (va_up (va_up (va_up (va_up (fun _ => 0) 0 1) 1 0) 2 0) 3 0) 4 0)))) (.inl (0, 9, .inl (va_up (va_up (va_up (fun _ => 0) 0 (-1)) 1 0) 2 0)))) _
  refine mo_ist okX9_toldOfSector (j := 3) rfl (by have := hw.1; omega) (Nat.lt_succ_self _) mi_psh_self rfl (by decide) (by decide) ?_
  rw [mi_set_psh]
  refine mi_blk okX9_toldOfSector 4 (pc' := 129) (lv' := [(6, .int (((1000 * (((nI k) / 60) - ((nI k) / 60) / 3 * 3)) + (10 * (((nI k) / 5) - ((nI k) / 5) / 12 * 12))) + ((nI k) - (nI k) / 5 * 5))), (5, .ref h.1), (4, .int 0), (3, .null), (0, .ref M), (1, .int (nI k)), (2, .int 0)]) (st' := [.int 2, .ref h.1, .int 4, .ref (h.1 + 1), .ref (h.1 + 1)]) rfl ?_
  refine mo_ild okX9_toldOfSector (j := 2) (v := 0) rfl (show 6 ≤ h.1 by have := hw.1; omega) (Nat.lt_succ_of_lt (Nat.lt_succ_self _)) ((mi_psh_lt (Nat.lt_succ_self _)).trans mi_psh_self) rfl (by decide) (by decide) rfl ?_
  refine mo_ist okX9_toldOfSector (j := 4) rfl (by have := hw.1; omega) (Nat.lt_succ_self _) mi_psh_self rfl (by decide) (by decide) ?_
  rw [mi_set_psh]
  refine mi_blk okX9_toldOfSector 4 (pc' := 136) (lv' := [(6, .int (((1000 * (((nI k) / 60) - ((nI k) / 60) / 3 * 3)) + (10 * (((nI k) / 5) - ((nI k) / 5) / 12 * 12))) + ((nI k) - (nI k) / 5 * 5))), (5, .ref h.1), (4, .int 0), (3, .null), (0, .ref M), (1, .int (nI k)), (2, .int 0)]) (st' := [.int 1, .ref h.1, .int 5, .ref (h.1 + 1), .ref (h.1 + 1)]) rfl ?_
  refine mo_ild okX9_toldOfSector (j := 1) (v := 0) rfl (show 6 ≤ h.1 by have := hw.1; omega) (Nat.lt_succ_of_lt (Nat.lt_succ_self _)) ((mi_psh_lt (Nat.lt_succ_self _)).trans mi_psh_self) rfl (by decide) (by decide) rfl ?_
  refine mo_ist okX9_toldOfSector (j := 5) rfl (by have := hw.1; omega) (Nat.lt_succ_self _) mi_psh_self rfl (by decide) (by decide) ?_
  rw [mi_set_psh]
  refine mi_blk okX9_toldOfSector 4 (pc' := 144) (lv' := [(6, .int (((1000 * (((nI k) / 60) - ((nI k) / 60) / 3 * 3)) + (10 * (((nI k) / 5) - ((nI k) / 5) / 12 * 12))) + ((nI k) - (nI k) / 5 * 5))), (5, .ref h.1), (4, .int 0), (3, .null), (0, .ref M), (1, .int (nI k)), (2, .int 0)]) (st' := [.int 3, .ref h.1, .int 6, .ref (h.1 + 1), .ref (h.1 + 1)]) rfl ?_
  refine mo_ild okX9_toldOfSector (j := 3) (v := 0) rfl (show 6 ≤ h.1 by have := hw.1; omega) (Nat.lt_succ_of_lt (Nat.lt_succ_self _)) ((mi_psh_lt (Nat.lt_succ_self _)).trans mi_psh_self) rfl (by decide) (by decide) rfl ?_
  refine mo_ist okX9_toldOfSector (j := 6) rfl (by have := hw.1; omega) (Nat.lt_succ_self _) mi_psh_self rfl (by decide) (by decide) ?_
  rw [mi_set_psh]
  refine mi_blk okX9_toldOfSector 3 (pc' := 150) (lv' := [(6, .int (((1000 * (((nI k) / 60) - ((nI k) / 60) / 3 * 3)) + (10 * (((nI k) / 5) - ((nI k) / 5) / 12 * 12))) + ((nI k) - (nI k) / 5 * 5))), (5, .ref h.1), (4, .int 0), (3, .null), (0, .ref M), (1, .int (nI k)), (2, .int 0)]) (st' := [.int (nI k), .int 7, .ref (h.1 + 1), .ref (h.1 + 1)]) rfl ?_
  refine mi_callS okX9_toldOfSector (mc := 0) (ms := 0) (mc' := 0) (ms' := 0) (As := [.int (nI k)]) (st := [.int 7, .ref (h.1 + 1), .ref (h.1 + 1)]) rfl cs_RX9_171 rfl (by decide) (Nat.le_of_ble_eq_true rfl) (m_turnOf hk) (fun r h1 q => ?_)
  obtain ⟨rfl, e9⟩ := q; have e9 := e9.symm; subst e9
  change mi_WX _ pP X kX9_toldOfSector 3 0 0 153 [(6, .int (((1000 * (((nI k) / 60) - ((nI k) / 60) / 3 * 3)) + (10 * (((nI k) / 5) - ((nI k) / 5) / 12 * 12))) + ((nI k) - (nI k) / 5 * 5))), (5, .ref h.1), (4, .int 0), (3, .null), (0, .ref M), (1, .int (nI k)), (2, .int 0)] [.int (sp_turn (nI k)), .int 7, .ref (h.1 + 1), .ref (h.1 + 1)] (mi_psh (mi_psh h (.inl (0, 5, .inl (va_up (va_up (va_up (va_up (va_up (fun _ => 0) 0 1) 1 0) 2 0) 3 0) 4 0)))) (.inl (0, 9, .inl (va_up (va_up (va_up (va_up (va_up (va_up (va_up (fun _ => 0) 0 (-1)) 1 0) 2 0) 3 2) 4 0) 5 0) 6 0)))) _
  refine mo_ist okX9_toldOfSector (j := 7) rfl (by have := hw.1; omega) (Nat.lt_succ_self _) mi_psh_self rfl (by decide) (by decide) ?_
  rw [mi_set_psh]
  refine mi_blk okX9_toldOfSector 3 (pc' := 159) (lv' := [(6, .int (((1000 * (((nI k) / 60) - ((nI k) / 60) / 3 * 3)) + (10 * (((nI k) / 5) - ((nI k) / 5) / 12 * 12))) + ((nI k) - (nI k) / 5 * 5))), (5, .ref h.1), (4, .int 0), (3, .null), (0, .ref M), (1, .int (nI k)), (2, .int 0)]) (st' := [.int (((1000 * (((nI k) / 60) - ((nI k) / 60) / 3 * 3)) + (10 * (((nI k) / 5) - ((nI k) / 5) / 12 * 12))) + ((nI k) - (nI k) / 5 * 5)), .int 8, .ref (h.1 + 1), .ref (h.1 + 1)]) rfl ?_
  refine mo_ist okX9_toldOfSector (j := 8) rfl (by have := hw.1; omega) (Nat.lt_succ_self _) mi_psh_self rfl (by decide) (by decide) ?_
  rw [mi_set_psh]
  refine mi_blk okX9_toldOfSector 3 (pc' := 165) (lv' := [(7, .ref (h.1 + 1)), (6, .int (((1000 * (((nI k) / 60) - ((nI k) / 60) / 3 * 3)) + (10 * (((nI k) / 5) - ((nI k) / 5) / 12 * 12))) + ((nI k) - (nI k) / 5 * 5))), (5, .ref h.1), (4, .int 0), (3, .null), (0, .ref M), (1, .int (nI k)), (2, .int 0)]) (st' := [.int 0, .ref (h.1 + 1)]) rfl ?_
  refine mo_ild okX9_toldOfSector (j := 0) (v := (-1)) rfl (by have := hw.1; omega) (Nat.lt_succ_self _) mi_psh_self rfl (by decide) (by decide) rfl ?_
  exact mi_ret_i okX9_toldOfSector rfl rfl rfl ⟨rfl, (tp.rf.psh _).psh _⟩
set_option maxHeartbeats 4000000 in
set_option maxRecDepth 100000 in
theorem m_toldOfSector_1 {X : mi_X} {h : mi_H} {M : Nat} (hw : mo_W M h) {th : Int32} {u : mo_U} (hc : h.2 M = mo_c M th u) {k : Nat} (hk : k < 240) : mi_S pP X kX9_toldOfSector 3 [.ref M, .int (nI k), .int 1] h 2 14 (fun r h1 => r = some (.int 0) ∧ tp h h1) := by
  refine enX9_toldOfSector (Nat.le_of_ble_eq_true rfl) ?_
  refine mi_blk okX9_toldOfSector 1 (pc' := 1) (lv' := [(0, .ref M), (1, .int (nI k)), (2, .int 1)]) (st' := [.ref M]) rfl ?_
  refine mi_getf okX9_toldOfSector rfl fg_RX9_11 (show 6 ≤ _ by have := hw.1; omega) (show _ < h.1 by have := hw.1; omega) hc (v := .ref (M + 1)) rfl ?_
  refine mi_blk okX9_toldOfSector 1 (pc' := 5) (lv' := [(0, .ref M), (1, .int (nI k)), (2, .int 1)]) (st' := [.int (nI k), .ref (M + 1)]) rfl ?_
  refine mo_aab okX9_toldOfSector (k := k) rfl hw hk ?_
  refine mi_blk okX9_toldOfSector 7 (pc' := 17) (lv' := [(5, .int 0), (4, .int 0), (3, .null), (0, .ref M), (1, .int (nI k)), (2, .int 1)]) (st' := [.int 16, .int 0]) rfl ?_
  refine mi_ic_ge okX9_toldOfSector rfl rfl (fun c_17 => absurd c_17 (by decide)) (fun c_17 => ?_)
  refine mi_blk okX9_toldOfSector 1 (pc' := 21) (lv' := [(5, .int 0), (4, .int 0), (3, .null), (0, .ref M), (1, .int (nI k)), (2, .int 1)]) (st' := [.null]) rfl ?_
  refine mi_ifnull_n okX9_toldOfSector rfl rfl ?_
  refine mi_blk okX9_toldOfSector 1 (pc' := 52) (lv' := [(5, .int 0), (4, .int 0), (3, .null), (0, .ref M), (1, .int (nI k)), (2, .int 1)]) (st' := [.null]) rfl ?_
  refine mi_callS okX9_toldOfSector (mc := 1) (ms := 9) (mc' := 1) (ms' := 5) (As := [.null]) (st := []) rfl cs_RX9_221 rfl (by decide) (Nat.le_of_ble_eq_true rfl) (m_marks (show 6 ≤ h.1 by have := hw.1; omega)) (fun r h1 q => ?_)
  obtain ⟨rfl, e9⟩ := q; subst e9
  change mi_WX _ pP X kX9_toldOfSector 3 1 9 55 [(5, .int 0), (4, .int 0), (3, .null), (0, .ref M), (1, .int (nI k)), (2, .int 1)] [.ref h.1] (mi_psh h (.inl (0, 5, .inl (va_up (va_up (va_up (va_up (va_up (fun _ => 0) 0 1) 1 0) 2 0) 3 0) 4 0)))) _
  refine mi_blk okX9_toldOfSector 4 (pc' := 63) (lv' := [(5, .ref h.1), (4, .int 0), (3, .null), (0, .ref M), (1, .int (nI k)), (2, .int 1)]) (st' := [.int 60, .int (nI k), .int 1000]) rfl ?_
  refine mi_idiv okX9_toldOfSector rfl (by decide) ?_
  refine mi_blk okX9_toldOfSector 1 (pc' := 65) (lv' := [(5, .ref h.1), (4, .int 0), (3, .null), (0, .ref M), (1, .int (nI k)), (2, .int 1)]) (st' := [.int 3, .int ((nI k) / 60), .int 1000]) rfl ?_
  refine mi_irem okX9_toldOfSector rfl (by decide) ?_
  refine mi_blk okX9_toldOfSector 4 (pc' := 71) (lv' := [(5, .ref h.1), (4, .int 0), (3, .null), (0, .ref M), (1, .int (nI k)), (2, .int 1)]) (st' := [.int 5, .int (nI k), .int 10, .int (1000 * (((nI k) / 60) - ((nI k) / 60) / 3 * 3))]) rfl ?_
  refine mi_idiv okX9_toldOfSector rfl (by decide) ?_
  refine mi_blk okX9_toldOfSector 1 (pc' := 74) (lv' := [(5, .ref h.1), (4, .int 0), (3, .null), (0, .ref M), (1, .int (nI k)), (2, .int 1)]) (st' := [.int 12, .int ((nI k) / 5), .int 10, .int (1000 * (((nI k) / 60) - ((nI k) / 60) / 3 * 3))]) rfl ?_
  refine mi_irem okX9_toldOfSector rfl (by decide) ?_
  refine mi_blk okX9_toldOfSector 4 (pc' := 79) (lv' := [(5, .ref h.1), (4, .int 0), (3, .null), (0, .ref M), (1, .int (nI k)), (2, .int 1)]) (st' := [.int 5, .int (nI k), .int ((1000 * (((nI k) / 60) - ((nI k) / 60) / 3 * 3)) + (10 * (((nI k) / 5) - ((nI k) / 5) / 12 * 12)))]) rfl ?_
  refine mi_irem okX9_toldOfSector rfl (by decide) ?_
  refine mi_blk okX9_toldOfSector 3 (pc' := 85) (lv' := [(6, .int (((1000 * (((nI k) / 60) - ((nI k) / 60) / 3 * 3)) + (10 * (((nI k) / 5) - ((nI k) / 5) / 12 * 12))) + ((nI k) - (nI k) / 5 * 5))), (5, .ref h.1), (4, .int 0), (3, .null), (0, .ref M), (1, .int (nI k)), (2, .int 1)]) (st' := [.int 9]) rfl ?_
  refine mi_newa okX9_toldOfSector (mc := 0) (ms := 0) (t := 0) (N := 9) (z := .inl (fun _ => 0)) rfl rfl ac_int (by decide) (by decide) (by decide) (fun _ => rfl) (fun _ => rfl) ?_
  change mi_WX _ pP X kX9_toldOfSector 3 0 0 87 [(6, .int (((1000 * (((nI k) / 60) - ((nI k) / 60) / 3 * 3)) + (10 * (((nI k) / 5) - ((nI k) / 5) / 12 * 12))) + ((nI k) - (nI k) / 5 * 5))), (5, .ref h.1), (4, .int 0), (3, .null), (0, .ref M), (1, .int (nI k)), (2, .int 1)] [.ref (h.1 + 1)] (mi_psh (mi_psh h (.inl (0, 5, .inl (va_up (va_up (va_up (va_up (va_up (fun _ => 0) 0 1) 1 0) 2 0) 3 0) 4 0)))) (.inl (0, 9, .inl (fun _ => 0)))) _
  refine mi_blk okX9_toldOfSector 3 (pc' := 90) (lv' := [(6, .int (((1000 * (((nI k) / 60) - ((nI k) / 60) / 3 * 3)) + (10 * (((nI k) / 5) - ((nI k) / 5) / 12 * 12))) + ((nI k) - (nI k) / 5 * 5))), (5, .ref h.1), (4, .int 0), (3, .null), (0, .ref M), (1, .int (nI k)), (2, .int 1)]) (st' := [.ref M, .int 0, .ref (h.1 + 1), .ref (h.1 + 1)]) rfl ?_
  refine mi_getf okX9_toldOfSector rfl fg_RX9_25 (show 6 ≤ _ by have := hw.1; omega) (Nat.lt_succ_of_lt (Nat.lt_succ_of_lt (show _ < h.1 by have := hw.1; omega))) ((mi_psh_lt (Nat.lt_succ_of_lt (show _ < h.1 by have := hw.1; omega))).trans ((mi_psh_lt (show _ < h.1 by have := hw.1; omega)).trans hc)) (v := .ref (M + 4)) rfl ?_
  refine mi_blk okX9_toldOfSector 1 (pc' := 94) (lv' := [(6, .int (((1000 * (((nI k) / 60) - ((nI k) / 60) / 3 * 3)) + (10 * (((nI k) / 5) - ((nI k) / 5) / 12 * 12))) + ((nI k) - (nI k) / 5 * 5))), (5, .ref h.1), (4, .int 0), (3, .null), (0, .ref M), (1, .int (nI k)), (2, .int 1)]) (st' := [.int (nI k), .ref (M + 4), .int 0, .ref (h.1 + 1), .ref (h.1 + 1)]) rfl ?_
  refine mo_iao okX9_toldOfSector (k := k) rfl ((hw.psh _).psh _) hk ?_
  refine mo_ist okX9_toldOfSector (j := 0) rfl (by have := hw.1; omega) (Nat.lt_succ_self _) mi_psh_self rfl (by decide) (by decide) ?_
  rw [mi_set_psh]
  refine mi_blk okX9_toldOfSector 3 (pc' := 99) (lv' := [(6, .int (((1000 * (((nI k) / 60) - ((nI k) / 60) / 3 * 3)) + (10 * (((nI k) / 5) - ((nI k) / 5) / 12 * 12))) + ((nI k) - (nI k) / 5 * 5))), (5, .ref h.1), (4, .int 0), (3, .null), (0, .ref M), (1, .int (nI k)), (2, .int 1)]) (st' := [.null, .int 1, .ref (h.1 + 1), .ref (h.1 + 1)]) rfl ?_
  refine mi_ifnull_n okX9_toldOfSector rfl rfl ?_
  refine mi_blk okX9_toldOfSector 1 (pc' := 107) (lv' := [(6, .int (((1000 * (((nI k) / 60) - ((nI k) / 60) / 3 * 3)) + (10 * (((nI k) / 5) - ((nI k) / 5) / 12 * 12))) + ((nI k) - (nI k) / 5 * 5))), (5, .ref h.1), (4, .int 0), (3, .null), (0, .ref M), (1, .int (nI k)), (2, .int 1)]) (st' := [.int 0, .int 1, .ref (h.1 + 1), .ref (h.1 + 1)]) rfl ?_
  refine mi_callS okX9_toldOfSector (mc := 0) (ms := 0) (mc' := 0) (ms' := 0) (As := [.int 0]) (st := [.int 1, .ref (h.1 + 1), .ref (h.1 + 1)]) rfl cs_RX9_217 rfl (by decide) (Nat.le_of_ble_eq_true rfl) m_one_0 (fun r h1 q => ?_)
  obtain ⟨rfl, e9⟩ := q; have e9 := e9.symm; subst e9
  change mi_WX _ pP X kX9_toldOfSector 3 0 0 110 [(6, .int (((1000 * (((nI k) / 60) - ((nI k) / 60) / 3 * 3)) + (10 * (((nI k) / 5) - ((nI k) / 5) / 12 * 12))) + ((nI k) - (nI k) / 5 * 5))), (5, .ref h.1), (4, .int 0), (3, .null), (0, .ref M), (1, .int (nI k)), (2, .int 1)] [.int 0, .int 1, .ref (h.1 + 1), .ref (h.1 + 1)] (mi_psh (mi_psh h (.inl (0, 5, .inl (va_up (va_up (va_up (va_up (va_up (fun _ => 0) 0 1) 1 0) 2 0) 3 0) 4 0)))) (.inl (0, 9, .inl (va_up (fun _ => 0) 0 (-1))))) _
  refine mo_ist okX9_toldOfSector (j := 1) rfl (by have := hw.1; omega) (Nat.lt_succ_self _) mi_psh_self rfl (by decide) (by decide) ?_
  rw [mi_set_psh]
  refine mi_blk okX9_toldOfSector 3 (pc' := 115) (lv' := [(6, .int (((1000 * (((nI k) / 60) - ((nI k) / 60) / 3 * 3)) + (10 * (((nI k) / 5) - ((nI k) / 5) / 12 * 12))) + ((nI k) - (nI k) / 5 * 5))), (5, .ref h.1), (4, .int 0), (3, .null), (0, .ref M), (1, .int (nI k)), (2, .int 1)]) (st' := [.int 0, .int 2, .ref (h.1 + 1), .ref (h.1 + 1)]) rfl ?_
  refine mo_ist okX9_toldOfSector (j := 2) rfl (by have := hw.1; omega) (Nat.lt_succ_self _) mi_psh_self rfl (by decide) (by decide) ?_
  rw [mi_set_psh]
  refine mi_blk okX9_toldOfSector 4 (pc' := 120) (lv' := [(6, .int (((1000 * (((nI k) / 60) - ((nI k) / 60) / 3 * 3)) + (10 * (((nI k) / 5) - ((nI k) / 5) / 12 * 12))) + ((nI k) - (nI k) / 5 * 5))), (5, .ref h.1), (4, .int 0), (3, .null), (0, .ref M), (1, .int (nI k)), (2, .int 1)]) (st' := [.int (nI k), .ref M, .int 3, .ref (h.1 + 1), .ref (h.1 + 1)]) rfl ?_
  refine mi_callV okX9_toldOfSector (mc := 0) (ms := 0) (mc' := 0) (ms' := 0) (b := M) (As := [.int (nI k)]) (st := [.int 3, .ref (h.1 + 1), .ref (h.1 + 1)]) rfl cv_RX9_104 rfl (by decide) (show 6 ≤ _ by have := hw.1; omega) (Nat.lt_succ_of_lt (Nat.lt_succ_of_lt (show _ < h.1 by have := hw.1; omega))) ((mi_psh_lt (Nat.lt_succ_of_lt (show _ < h.1 by have := hw.1; omega))).trans ((mi_psh_lt (show _ < h.1 by have := hw.1; omega)).trans hc)) rfl (Nat.le_of_ble_eq_true rfl) (m_worth ((hw.psh _).psh _) ((mi_psh_lt (Nat.lt_succ_of_lt (show _ < h.1 by have := hw.1; omega))).trans ((mi_psh_lt (show _ < h.1 by have := hw.1; omega)).trans hc)) hk) (fun r h1 q => ?_)
  obtain ⟨rfl, e9⟩ := q; have e9 := e9.symm; subst e9
  change mi_WX _ pP X kX9_toldOfSector 3 0 0 123 [(6, .int (((1000 * (((nI k) / 60) - ((nI k) / 60) / 3 * 3)) + (10 * (((nI k) / 5) - ((nI k) / 5) / 12 * 12))) + ((nI k) - (nI k) / 5 * 5))), (5, .ref h.1), (4, .int 0), (3, .null), (0, .ref M), (1, .int (nI k)), (2, .int 1)] [.int 2, .int 3, .ref (h.1 + 1), .ref (h.1 + 1)] (mi_psh (mi_psh h (.inl (0, 5, .inl (va_up (va_up (va_up (va_up (va_up (fun _ => 0) 0 1) 1 0) 2 0) 3 0) 4 0)))) (.inl (0, 9, .inl (va_up (va_up (va_up (fun _ => 0) 0 (-1)) 1 0) 2 0)))) _
  refine mo_ist okX9_toldOfSector (j := 3) rfl (by have := hw.1; omega) (Nat.lt_succ_self _) mi_psh_self rfl (by decide) (by decide) ?_
  rw [mi_set_psh]
  refine mi_blk okX9_toldOfSector 4 (pc' := 129) (lv' := [(6, .int (((1000 * (((nI k) / 60) - ((nI k) / 60) / 3 * 3)) + (10 * (((nI k) / 5) - ((nI k) / 5) / 12 * 12))) + ((nI k) - (nI k) / 5 * 5))), (5, .ref h.1), (4, .int 0), (3, .null), (0, .ref M), (1, .int (nI k)), (2, .int 1)]) (st' := [.int 2, .ref h.1, .int 4, .ref (h.1 + 1), .ref (h.1 + 1)]) rfl ?_
  refine mo_ild okX9_toldOfSector (j := 2) (v := 0) rfl (show 6 ≤ h.1 by have := hw.1; omega) (Nat.lt_succ_of_lt (Nat.lt_succ_self _)) ((mi_psh_lt (Nat.lt_succ_self _)).trans mi_psh_self) rfl (by decide) (by decide) rfl ?_
  refine mo_ist okX9_toldOfSector (j := 4) rfl (by have := hw.1; omega) (Nat.lt_succ_self _) mi_psh_self rfl (by decide) (by decide) ?_
  rw [mi_set_psh]
  refine mi_blk okX9_toldOfSector 4 (pc' := 136) (lv' := [(6, .int (((1000 * (((nI k) / 60) - ((nI k) / 60) / 3 * 3)) + (10 * (((nI k) / 5) - ((nI k) / 5) / 12 * 12))) + ((nI k) - (nI k) / 5 * 5))), (5, .ref h.1), (4, .int 0), (3, .null), (0, .ref M), (1, .int (nI k)), (2, .int 1)]) (st' := [.int 1, .ref h.1, .int 5, .ref (h.1 + 1), .ref (h.1 + 1)]) rfl ?_
  refine mo_ild okX9_toldOfSector (j := 1) (v := 0) rfl (show 6 ≤ h.1 by have := hw.1; omega) (Nat.lt_succ_of_lt (Nat.lt_succ_self _)) ((mi_psh_lt (Nat.lt_succ_self _)).trans mi_psh_self) rfl (by decide) (by decide) rfl ?_
  refine mo_ist okX9_toldOfSector (j := 5) rfl (by have := hw.1; omega) (Nat.lt_succ_self _) mi_psh_self rfl (by decide) (by decide) ?_
  rw [mi_set_psh]
  refine mi_blk okX9_toldOfSector 4 (pc' := 144) (lv' := [(6, .int (((1000 * (((nI k) / 60) - ((nI k) / 60) / 3 * 3)) + (10 * (((nI k) / 5) - ((nI k) / 5) / 12 * 12))) + ((nI k) - (nI k) / 5 * 5))), (5, .ref h.1), (4, .int 0), (3, .null), (0, .ref M), (1, .int (nI k)), (2, .int 1)]) (st' := [.int 3, .ref h.1, .int 6, .ref (h.1 + 1), .ref (h.1 + 1)]) rfl ?_
  refine mo_ild okX9_toldOfSector (j := 3) (v := 0) rfl (show 6 ≤ h.1 by have := hw.1; omega) (Nat.lt_succ_of_lt (Nat.lt_succ_self _)) ((mi_psh_lt (Nat.lt_succ_self _)).trans mi_psh_self) rfl (by decide) (by decide) rfl ?_
  refine mo_ist okX9_toldOfSector (j := 6) rfl (by have := hw.1; omega) (Nat.lt_succ_self _) mi_psh_self rfl (by decide) (by decide) ?_
  rw [mi_set_psh]
  refine mi_blk okX9_toldOfSector 3 (pc' := 150) (lv' := [(6, .int (((1000 * (((nI k) / 60) - ((nI k) / 60) / 3 * 3)) + (10 * (((nI k) / 5) - ((nI k) / 5) / 12 * 12))) + ((nI k) - (nI k) / 5 * 5))), (5, .ref h.1), (4, .int 0), (3, .null), (0, .ref M), (1, .int (nI k)), (2, .int 1)]) (st' := [.int (nI k), .int 7, .ref (h.1 + 1), .ref (h.1 + 1)]) rfl ?_
  refine mi_callS okX9_toldOfSector (mc := 0) (ms := 0) (mc' := 0) (ms' := 0) (As := [.int (nI k)]) (st := [.int 7, .ref (h.1 + 1), .ref (h.1 + 1)]) rfl cs_RX9_171 rfl (by decide) (Nat.le_of_ble_eq_true rfl) (m_turnOf hk) (fun r h1 q => ?_)
  obtain ⟨rfl, e9⟩ := q; have e9 := e9.symm; subst e9
  change mi_WX _ pP X kX9_toldOfSector 3 0 0 153 [(6, .int (((1000 * (((nI k) / 60) - ((nI k) / 60) / 3 * 3)) + (10 * (((nI k) / 5) - ((nI k) / 5) / 12 * 12))) + ((nI k) - (nI k) / 5 * 5))), (5, .ref h.1), (4, .int 0), (3, .null), (0, .ref M), (1, .int (nI k)), (2, .int 1)] [.int (sp_turn (nI k)), .int 7, .ref (h.1 + 1), .ref (h.1 + 1)] (mi_psh (mi_psh h (.inl (0, 5, .inl (va_up (va_up (va_up (va_up (va_up (fun _ => 0) 0 1) 1 0) 2 0) 3 0) 4 0)))) (.inl (0, 9, .inl (va_up (va_up (va_up (va_up (va_up (va_up (va_up (fun _ => 0) 0 (-1)) 1 0) 2 0) 3 2) 4 0) 5 0) 6 0)))) _
  refine mo_ist okX9_toldOfSector (j := 7) rfl (by have := hw.1; omega) (Nat.lt_succ_self _) mi_psh_self rfl (by decide) (by decide) ?_
  rw [mi_set_psh]
  refine mi_blk okX9_toldOfSector 3 (pc' := 159) (lv' := [(6, .int (((1000 * (((nI k) / 60) - ((nI k) / 60) / 3 * 3)) + (10 * (((nI k) / 5) - ((nI k) / 5) / 12 * 12))) + ((nI k) - (nI k) / 5 * 5))), (5, .ref h.1), (4, .int 0), (3, .null), (0, .ref M), (1, .int (nI k)), (2, .int 1)]) (st' := [.int (((1000 * (((nI k) / 60) - ((nI k) / 60) / 3 * 3)) + (10 * (((nI k) / 5) - ((nI k) / 5) / 12 * 12))) + ((nI k) - (nI k) / 5 * 5)), .int 8, .ref (h.1 + 1), .ref (h.1 + 1)]) rfl ?_
  refine mo_ist okX9_toldOfSector (j := 8) rfl (by have := hw.1; omega) (Nat.lt_succ_self _) mi_psh_self rfl (by decide) (by decide) ?_
  rw [mi_set_psh]
  refine mi_blk okX9_toldOfSector 3 (pc' := 165) (lv' := [(7, .ref (h.1 + 1)), (6, .int (((1000 * (((nI k) / 60) - ((nI k) / 60) / 3 * 3)) + (10 * (((nI k) / 5) - ((nI k) / 5) / 12 * 12))) + ((nI k) - (nI k) / 5 * 5))), (5, .ref h.1), (4, .int 0), (3, .null), (0, .ref M), (1, .int (nI k)), (2, .int 1)]) (st' := [.int 1, .ref (h.1 + 1)]) rfl ?_
  refine mo_ild okX9_toldOfSector (j := 1) (v := 0) rfl (by have := hw.1; omega) (Nat.lt_succ_self _) mi_psh_self rfl (by decide) (by decide) rfl ?_
  exact mi_ret_i okX9_toldOfSector rfl rfl rfl ⟨rfl, (tp.rf.psh _).psh _⟩
set_option maxHeartbeats 4000000 in
set_option maxRecDepth 100000 in
theorem m_toldOfSector_2 {X : mi_X} {h : mi_H} {M : Nat} (hw : mo_W M h) {th : Int32} {u : mo_U} (hc : h.2 M = mo_c M th u) {k : Nat} (hk : k < 240) : mi_S pP X kX9_toldOfSector 3 [.ref M, .int (nI k), .int 2] h 2 14 (fun r h1 => r = some (.int 0) ∧ tp h h1) := by
  refine enX9_toldOfSector (Nat.le_of_ble_eq_true rfl) ?_
  refine mi_blk okX9_toldOfSector 1 (pc' := 1) (lv' := [(0, .ref M), (1, .int (nI k)), (2, .int 2)]) (st' := [.ref M]) rfl ?_
  refine mi_getf okX9_toldOfSector rfl fg_RX9_11 (show 6 ≤ _ by have := hw.1; omega) (show _ < h.1 by have := hw.1; omega) hc (v := .ref (M + 1)) rfl ?_
  refine mi_blk okX9_toldOfSector 1 (pc' := 5) (lv' := [(0, .ref M), (1, .int (nI k)), (2, .int 2)]) (st' := [.int (nI k), .ref (M + 1)]) rfl ?_
  refine mo_aab okX9_toldOfSector (k := k) rfl hw hk ?_
  refine mi_blk okX9_toldOfSector 7 (pc' := 17) (lv' := [(5, .int 0), (4, .int 0), (3, .null), (0, .ref M), (1, .int (nI k)), (2, .int 2)]) (st' := [.int 16, .int 0]) rfl ?_
  refine mi_ic_ge okX9_toldOfSector rfl rfl (fun c_17 => absurd c_17 (by decide)) (fun c_17 => ?_)
  refine mi_blk okX9_toldOfSector 1 (pc' := 21) (lv' := [(5, .int 0), (4, .int 0), (3, .null), (0, .ref M), (1, .int (nI k)), (2, .int 2)]) (st' := [.null]) rfl ?_
  refine mi_ifnull_n okX9_toldOfSector rfl rfl ?_
  refine mi_blk okX9_toldOfSector 1 (pc' := 52) (lv' := [(5, .int 0), (4, .int 0), (3, .null), (0, .ref M), (1, .int (nI k)), (2, .int 2)]) (st' := [.null]) rfl ?_
  refine mi_callS okX9_toldOfSector (mc := 1) (ms := 9) (mc' := 1) (ms' := 5) (As := [.null]) (st := []) rfl cs_RX9_221 rfl (by decide) (Nat.le_of_ble_eq_true rfl) (m_marks (show 6 ≤ h.1 by have := hw.1; omega)) (fun r h1 q => ?_)
  obtain ⟨rfl, e9⟩ := q; subst e9
  change mi_WX _ pP X kX9_toldOfSector 3 1 9 55 [(5, .int 0), (4, .int 0), (3, .null), (0, .ref M), (1, .int (nI k)), (2, .int 2)] [.ref h.1] (mi_psh h (.inl (0, 5, .inl (va_up (va_up (va_up (va_up (va_up (fun _ => 0) 0 1) 1 0) 2 0) 3 0) 4 0)))) _
  refine mi_blk okX9_toldOfSector 4 (pc' := 63) (lv' := [(5, .ref h.1), (4, .int 0), (3, .null), (0, .ref M), (1, .int (nI k)), (2, .int 2)]) (st' := [.int 60, .int (nI k), .int 1000]) rfl ?_
  refine mi_idiv okX9_toldOfSector rfl (by decide) ?_
  refine mi_blk okX9_toldOfSector 1 (pc' := 65) (lv' := [(5, .ref h.1), (4, .int 0), (3, .null), (0, .ref M), (1, .int (nI k)), (2, .int 2)]) (st' := [.int 3, .int ((nI k) / 60), .int 1000]) rfl ?_
  refine mi_irem okX9_toldOfSector rfl (by decide) ?_
  refine mi_blk okX9_toldOfSector 4 (pc' := 71) (lv' := [(5, .ref h.1), (4, .int 0), (3, .null), (0, .ref M), (1, .int (nI k)), (2, .int 2)]) (st' := [.int 5, .int (nI k), .int 10, .int (1000 * (((nI k) / 60) - ((nI k) / 60) / 3 * 3))]) rfl ?_
  refine mi_idiv okX9_toldOfSector rfl (by decide) ?_
  refine mi_blk okX9_toldOfSector 1 (pc' := 74) (lv' := [(5, .ref h.1), (4, .int 0), (3, .null), (0, .ref M), (1, .int (nI k)), (2, .int 2)]) (st' := [.int 12, .int ((nI k) / 5), .int 10, .int (1000 * (((nI k) / 60) - ((nI k) / 60) / 3 * 3))]) rfl ?_
  refine mi_irem okX9_toldOfSector rfl (by decide) ?_
  refine mi_blk okX9_toldOfSector 4 (pc' := 79) (lv' := [(5, .ref h.1), (4, .int 0), (3, .null), (0, .ref M), (1, .int (nI k)), (2, .int 2)]) (st' := [.int 5, .int (nI k), .int ((1000 * (((nI k) / 60) - ((nI k) / 60) / 3 * 3)) + (10 * (((nI k) / 5) - ((nI k) / 5) / 12 * 12)))]) rfl ?_
  refine mi_irem okX9_toldOfSector rfl (by decide) ?_
  refine mi_blk okX9_toldOfSector 3 (pc' := 85) (lv' := [(6, .int (((1000 * (((nI k) / 60) - ((nI k) / 60) / 3 * 3)) + (10 * (((nI k) / 5) - ((nI k) / 5) / 12 * 12))) + ((nI k) - (nI k) / 5 * 5))), (5, .ref h.1), (4, .int 0), (3, .null), (0, .ref M), (1, .int (nI k)), (2, .int 2)]) (st' := [.int 9]) rfl ?_
  refine mi_newa okX9_toldOfSector (mc := 0) (ms := 0) (t := 0) (N := 9) (z := .inl (fun _ => 0)) rfl rfl ac_int (by decide) (by decide) (by decide) (fun _ => rfl) (fun _ => rfl) ?_
  change mi_WX _ pP X kX9_toldOfSector 3 0 0 87 [(6, .int (((1000 * (((nI k) / 60) - ((nI k) / 60) / 3 * 3)) + (10 * (((nI k) / 5) - ((nI k) / 5) / 12 * 12))) + ((nI k) - (nI k) / 5 * 5))), (5, .ref h.1), (4, .int 0), (3, .null), (0, .ref M), (1, .int (nI k)), (2, .int 2)] [.ref (h.1 + 1)] (mi_psh (mi_psh h (.inl (0, 5, .inl (va_up (va_up (va_up (va_up (va_up (fun _ => 0) 0 1) 1 0) 2 0) 3 0) 4 0)))) (.inl (0, 9, .inl (fun _ => 0)))) _
  refine mi_blk okX9_toldOfSector 3 (pc' := 90) (lv' := [(6, .int (((1000 * (((nI k) / 60) - ((nI k) / 60) / 3 * 3)) + (10 * (((nI k) / 5) - ((nI k) / 5) / 12 * 12))) + ((nI k) - (nI k) / 5 * 5))), (5, .ref h.1), (4, .int 0), (3, .null), (0, .ref M), (1, .int (nI k)), (2, .int 2)]) (st' := [.ref M, .int 0, .ref (h.1 + 1), .ref (h.1 + 1)]) rfl ?_
  refine mi_getf okX9_toldOfSector rfl fg_RX9_25 (show 6 ≤ _ by have := hw.1; omega) (Nat.lt_succ_of_lt (Nat.lt_succ_of_lt (show _ < h.1 by have := hw.1; omega))) ((mi_psh_lt (Nat.lt_succ_of_lt (show _ < h.1 by have := hw.1; omega))).trans ((mi_psh_lt (show _ < h.1 by have := hw.1; omega)).trans hc)) (v := .ref (M + 4)) rfl ?_
  refine mi_blk okX9_toldOfSector 1 (pc' := 94) (lv' := [(6, .int (((1000 * (((nI k) / 60) - ((nI k) / 60) / 3 * 3)) + (10 * (((nI k) / 5) - ((nI k) / 5) / 12 * 12))) + ((nI k) - (nI k) / 5 * 5))), (5, .ref h.1), (4, .int 0), (3, .null), (0, .ref M), (1, .int (nI k)), (2, .int 2)]) (st' := [.int (nI k), .ref (M + 4), .int 0, .ref (h.1 + 1), .ref (h.1 + 1)]) rfl ?_
  refine mo_iao okX9_toldOfSector (k := k) rfl ((hw.psh _).psh _) hk ?_
  refine mo_ist okX9_toldOfSector (j := 0) rfl (by have := hw.1; omega) (Nat.lt_succ_self _) mi_psh_self rfl (by decide) (by decide) ?_
  rw [mi_set_psh]
  refine mi_blk okX9_toldOfSector 3 (pc' := 99) (lv' := [(6, .int (((1000 * (((nI k) / 60) - ((nI k) / 60) / 3 * 3)) + (10 * (((nI k) / 5) - ((nI k) / 5) / 12 * 12))) + ((nI k) - (nI k) / 5 * 5))), (5, .ref h.1), (4, .int 0), (3, .null), (0, .ref M), (1, .int (nI k)), (2, .int 2)]) (st' := [.null, .int 1, .ref (h.1 + 1), .ref (h.1 + 1)]) rfl ?_
  refine mi_ifnull_n okX9_toldOfSector rfl rfl ?_
  refine mi_blk okX9_toldOfSector 1 (pc' := 107) (lv' := [(6, .int (((1000 * (((nI k) / 60) - ((nI k) / 60) / 3 * 3)) + (10 * (((nI k) / 5) - ((nI k) / 5) / 12 * 12))) + ((nI k) - (nI k) / 5 * 5))), (5, .ref h.1), (4, .int 0), (3, .null), (0, .ref M), (1, .int (nI k)), (2, .int 2)]) (st' := [.int 0, .int 1, .ref (h.1 + 1), .ref (h.1 + 1)]) rfl ?_
  refine mi_callS okX9_toldOfSector (mc := 0) (ms := 0) (mc' := 0) (ms' := 0) (As := [.int 0]) (st := [.int 1, .ref (h.1 + 1), .ref (h.1 + 1)]) rfl cs_RX9_217 rfl (by decide) (Nat.le_of_ble_eq_true rfl) m_one_0 (fun r h1 q => ?_)
  obtain ⟨rfl, e9⟩ := q; have e9 := e9.symm; subst e9
  change mi_WX _ pP X kX9_toldOfSector 3 0 0 110 [(6, .int (((1000 * (((nI k) / 60) - ((nI k) / 60) / 3 * 3)) + (10 * (((nI k) / 5) - ((nI k) / 5) / 12 * 12))) + ((nI k) - (nI k) / 5 * 5))), (5, .ref h.1), (4, .int 0), (3, .null), (0, .ref M), (1, .int (nI k)), (2, .int 2)] [.int 0, .int 1, .ref (h.1 + 1), .ref (h.1 + 1)] (mi_psh (mi_psh h (.inl (0, 5, .inl (va_up (va_up (va_up (va_up (va_up (fun _ => 0) 0 1) 1 0) 2 0) 3 0) 4 0)))) (.inl (0, 9, .inl (va_up (fun _ => 0) 0 (-1))))) _
  refine mo_ist okX9_toldOfSector (j := 1) rfl (by have := hw.1; omega) (Nat.lt_succ_self _) mi_psh_self rfl (by decide) (by decide) ?_
  rw [mi_set_psh]
  refine mi_blk okX9_toldOfSector 3 (pc' := 115) (lv' := [(6, .int (((1000 * (((nI k) / 60) - ((nI k) / 60) / 3 * 3)) + (10 * (((nI k) / 5) - ((nI k) / 5) / 12 * 12))) + ((nI k) - (nI k) / 5 * 5))), (5, .ref h.1), (4, .int 0), (3, .null), (0, .ref M), (1, .int (nI k)), (2, .int 2)]) (st' := [.int 0, .int 2, .ref (h.1 + 1), .ref (h.1 + 1)]) rfl ?_
  refine mo_ist okX9_toldOfSector (j := 2) rfl (by have := hw.1; omega) (Nat.lt_succ_self _) mi_psh_self rfl (by decide) (by decide) ?_
  rw [mi_set_psh]
  refine mi_blk okX9_toldOfSector 4 (pc' := 120) (lv' := [(6, .int (((1000 * (((nI k) / 60) - ((nI k) / 60) / 3 * 3)) + (10 * (((nI k) / 5) - ((nI k) / 5) / 12 * 12))) + ((nI k) - (nI k) / 5 * 5))), (5, .ref h.1), (4, .int 0), (3, .null), (0, .ref M), (1, .int (nI k)), (2, .int 2)]) (st' := [.int (nI k), .ref M, .int 3, .ref (h.1 + 1), .ref (h.1 + 1)]) rfl ?_
  refine mi_callV okX9_toldOfSector (mc := 0) (ms := 0) (mc' := 0) (ms' := 0) (b := M) (As := [.int (nI k)]) (st := [.int 3, .ref (h.1 + 1), .ref (h.1 + 1)]) rfl cv_RX9_104 rfl (by decide) (show 6 ≤ _ by have := hw.1; omega) (Nat.lt_succ_of_lt (Nat.lt_succ_of_lt (show _ < h.1 by have := hw.1; omega))) ((mi_psh_lt (Nat.lt_succ_of_lt (show _ < h.1 by have := hw.1; omega))).trans ((mi_psh_lt (show _ < h.1 by have := hw.1; omega)).trans hc)) rfl (Nat.le_of_ble_eq_true rfl) (m_worth ((hw.psh _).psh _) ((mi_psh_lt (Nat.lt_succ_of_lt (show _ < h.1 by have := hw.1; omega))).trans ((mi_psh_lt (show _ < h.1 by have := hw.1; omega)).trans hc)) hk) (fun r h1 q => ?_)
  obtain ⟨rfl, e9⟩ := q; have e9 := e9.symm; subst e9
  change mi_WX _ pP X kX9_toldOfSector 3 0 0 123 [(6, .int (((1000 * (((nI k) / 60) - ((nI k) / 60) / 3 * 3)) + (10 * (((nI k) / 5) - ((nI k) / 5) / 12 * 12))) + ((nI k) - (nI k) / 5 * 5))), (5, .ref h.1), (4, .int 0), (3, .null), (0, .ref M), (1, .int (nI k)), (2, .int 2)] [.int 2, .int 3, .ref (h.1 + 1), .ref (h.1 + 1)] (mi_psh (mi_psh h (.inl (0, 5, .inl (va_up (va_up (va_up (va_up (va_up (fun _ => 0) 0 1) 1 0) 2 0) 3 0) 4 0)))) (.inl (0, 9, .inl (va_up (va_up (va_up (fun _ => 0) 0 (-1)) 1 0) 2 0)))) _
  refine mo_ist okX9_toldOfSector (j := 3) rfl (by have := hw.1; omega) (Nat.lt_succ_self _) mi_psh_self rfl (by decide) (by decide) ?_
  rw [mi_set_psh]
  refine mi_blk okX9_toldOfSector 4 (pc' := 129) (lv' := [(6, .int (((1000 * (((nI k) / 60) - ((nI k) / 60) / 3 * 3)) + (10 * (((nI k) / 5) - ((nI k) / 5) / 12 * 12))) + ((nI k) - (nI k) / 5 * 5))), (5, .ref h.1), (4, .int 0), (3, .null), (0, .ref M), (1, .int (nI k)), (2, .int 2)]) (st' := [.int 2, .ref h.1, .int 4, .ref (h.1 + 1), .ref (h.1 + 1)]) rfl ?_
  refine mo_ild okX9_toldOfSector (j := 2) (v := 0) rfl (show 6 ≤ h.1 by have := hw.1; omega) (Nat.lt_succ_of_lt (Nat.lt_succ_self _)) ((mi_psh_lt (Nat.lt_succ_self _)).trans mi_psh_self) rfl (by decide) (by decide) rfl ?_
  refine mo_ist okX9_toldOfSector (j := 4) rfl (by have := hw.1; omega) (Nat.lt_succ_self _) mi_psh_self rfl (by decide) (by decide) ?_
  rw [mi_set_psh]
  refine mi_blk okX9_toldOfSector 4 (pc' := 136) (lv' := [(6, .int (((1000 * (((nI k) / 60) - ((nI k) / 60) / 3 * 3)) + (10 * (((nI k) / 5) - ((nI k) / 5) / 12 * 12))) + ((nI k) - (nI k) / 5 * 5))), (5, .ref h.1), (4, .int 0), (3, .null), (0, .ref M), (1, .int (nI k)), (2, .int 2)]) (st' := [.int 1, .ref h.1, .int 5, .ref (h.1 + 1), .ref (h.1 + 1)]) rfl ?_
  refine mo_ild okX9_toldOfSector (j := 1) (v := 0) rfl (show 6 ≤ h.1 by have := hw.1; omega) (Nat.lt_succ_of_lt (Nat.lt_succ_self _)) ((mi_psh_lt (Nat.lt_succ_self _)).trans mi_psh_self) rfl (by decide) (by decide) rfl ?_
  refine mo_ist okX9_toldOfSector (j := 5) rfl (by have := hw.1; omega) (Nat.lt_succ_self _) mi_psh_self rfl (by decide) (by decide) ?_
  rw [mi_set_psh]
  refine mi_blk okX9_toldOfSector 4 (pc' := 144) (lv' := [(6, .int (((1000 * (((nI k) / 60) - ((nI k) / 60) / 3 * 3)) + (10 * (((nI k) / 5) - ((nI k) / 5) / 12 * 12))) + ((nI k) - (nI k) / 5 * 5))), (5, .ref h.1), (4, .int 0), (3, .null), (0, .ref M), (1, .int (nI k)), (2, .int 2)]) (st' := [.int 3, .ref h.1, .int 6, .ref (h.1 + 1), .ref (h.1 + 1)]) rfl ?_
  refine mo_ild okX9_toldOfSector (j := 3) (v := 0) rfl (show 6 ≤ h.1 by have := hw.1; omega) (Nat.lt_succ_of_lt (Nat.lt_succ_self _)) ((mi_psh_lt (Nat.lt_succ_self _)).trans mi_psh_self) rfl (by decide) (by decide) rfl ?_
  refine mo_ist okX9_toldOfSector (j := 6) rfl (by have := hw.1; omega) (Nat.lt_succ_self _) mi_psh_self rfl (by decide) (by decide) ?_
  rw [mi_set_psh]
  refine mi_blk okX9_toldOfSector 3 (pc' := 150) (lv' := [(6, .int (((1000 * (((nI k) / 60) - ((nI k) / 60) / 3 * 3)) + (10 * (((nI k) / 5) - ((nI k) / 5) / 12 * 12))) + ((nI k) - (nI k) / 5 * 5))), (5, .ref h.1), (4, .int 0), (3, .null), (0, .ref M), (1, .int (nI k)), (2, .int 2)]) (st' := [.int (nI k), .int 7, .ref (h.1 + 1), .ref (h.1 + 1)]) rfl ?_
  refine mi_callS okX9_toldOfSector (mc := 0) (ms := 0) (mc' := 0) (ms' := 0) (As := [.int (nI k)]) (st := [.int 7, .ref (h.1 + 1), .ref (h.1 + 1)]) rfl cs_RX9_171 rfl (by decide) (Nat.le_of_ble_eq_true rfl) (m_turnOf hk) (fun r h1 q => ?_)
  obtain ⟨rfl, e9⟩ := q; have e9 := e9.symm; subst e9
  change mi_WX _ pP X kX9_toldOfSector 3 0 0 153 [(6, .int (((1000 * (((nI k) / 60) - ((nI k) / 60) / 3 * 3)) + (10 * (((nI k) / 5) - ((nI k) / 5) / 12 * 12))) + ((nI k) - (nI k) / 5 * 5))), (5, .ref h.1), (4, .int 0), (3, .null), (0, .ref M), (1, .int (nI k)), (2, .int 2)] [.int (sp_turn (nI k)), .int 7, .ref (h.1 + 1), .ref (h.1 + 1)] (mi_psh (mi_psh h (.inl (0, 5, .inl (va_up (va_up (va_up (va_up (va_up (fun _ => 0) 0 1) 1 0) 2 0) 3 0) 4 0)))) (.inl (0, 9, .inl (va_up (va_up (va_up (va_up (va_up (va_up (va_up (fun _ => 0) 0 (-1)) 1 0) 2 0) 3 2) 4 0) 5 0) 6 0)))) _
  refine mo_ist okX9_toldOfSector (j := 7) rfl (by have := hw.1; omega) (Nat.lt_succ_self _) mi_psh_self rfl (by decide) (by decide) ?_
  rw [mi_set_psh]
  refine mi_blk okX9_toldOfSector 3 (pc' := 159) (lv' := [(6, .int (((1000 * (((nI k) / 60) - ((nI k) / 60) / 3 * 3)) + (10 * (((nI k) / 5) - ((nI k) / 5) / 12 * 12))) + ((nI k) - (nI k) / 5 * 5))), (5, .ref h.1), (4, .int 0), (3, .null), (0, .ref M), (1, .int (nI k)), (2, .int 2)]) (st' := [.int (((1000 * (((nI k) / 60) - ((nI k) / 60) / 3 * 3)) + (10 * (((nI k) / 5) - ((nI k) / 5) / 12 * 12))) + ((nI k) - (nI k) / 5 * 5)), .int 8, .ref (h.1 + 1), .ref (h.1 + 1)]) rfl ?_
  refine mo_ist okX9_toldOfSector (j := 8) rfl (by have := hw.1; omega) (Nat.lt_succ_self _) mi_psh_self rfl (by decide) (by decide) ?_
  rw [mi_set_psh]
  refine mi_blk okX9_toldOfSector 3 (pc' := 165) (lv' := [(7, .ref (h.1 + 1)), (6, .int (((1000 * (((nI k) / 60) - ((nI k) / 60) / 3 * 3)) + (10 * (((nI k) / 5) - ((nI k) / 5) / 12 * 12))) + ((nI k) - (nI k) / 5 * 5))), (5, .ref h.1), (4, .int 0), (3, .null), (0, .ref M), (1, .int (nI k)), (2, .int 2)]) (st' := [.int 2, .ref (h.1 + 1)]) rfl ?_
  refine mo_ild okX9_toldOfSector (j := 2) (v := 0) rfl (by have := hw.1; omega) (Nat.lt_succ_self _) mi_psh_self rfl (by decide) (by decide) rfl ?_
  exact mi_ret_i okX9_toldOfSector rfl rfl rfl ⟨rfl, (tp.rf.psh _).psh _⟩
set_option maxHeartbeats 4000000 in
set_option maxRecDepth 100000 in
theorem m_toldOfSector_3 {X : mi_X} {h : mi_H} {M : Nat} (hw : mo_W M h) {th : Int32} {u : mo_U} (hc : h.2 M = mo_c M th u) {k : Nat} (hk : k < 240) : mi_S pP X kX9_toldOfSector 3 [.ref M, .int (nI k), .int 3] h 2 14 (fun r h1 => r = some (.int 2) ∧ tp h h1) := by
  refine enX9_toldOfSector (Nat.le_of_ble_eq_true rfl) ?_
  refine mi_blk okX9_toldOfSector 1 (pc' := 1) (lv' := [(0, .ref M), (1, .int (nI k)), (2, .int 3)]) (st' := [.ref M]) rfl ?_
  refine mi_getf okX9_toldOfSector rfl fg_RX9_11 (show 6 ≤ _ by have := hw.1; omega) (show _ < h.1 by have := hw.1; omega) hc (v := .ref (M + 1)) rfl ?_
  refine mi_blk okX9_toldOfSector 1 (pc' := 5) (lv' := [(0, .ref M), (1, .int (nI k)), (2, .int 3)]) (st' := [.int (nI k), .ref (M + 1)]) rfl ?_
  refine mo_aab okX9_toldOfSector (k := k) rfl hw hk ?_
  refine mi_blk okX9_toldOfSector 7 (pc' := 17) (lv' := [(5, .int 0), (4, .int 0), (3, .null), (0, .ref M), (1, .int (nI k)), (2, .int 3)]) (st' := [.int 16, .int 0]) rfl ?_
  refine mi_ic_ge okX9_toldOfSector rfl rfl (fun c_17 => absurd c_17 (by decide)) (fun c_17 => ?_)
  refine mi_blk okX9_toldOfSector 1 (pc' := 21) (lv' := [(5, .int 0), (4, .int 0), (3, .null), (0, .ref M), (1, .int (nI k)), (2, .int 3)]) (st' := [.null]) rfl ?_
  refine mi_ifnull_n okX9_toldOfSector rfl rfl ?_
  refine mi_blk okX9_toldOfSector 1 (pc' := 52) (lv' := [(5, .int 0), (4, .int 0), (3, .null), (0, .ref M), (1, .int (nI k)), (2, .int 3)]) (st' := [.null]) rfl ?_
  refine mi_callS okX9_toldOfSector (mc := 1) (ms := 9) (mc' := 1) (ms' := 5) (As := [.null]) (st := []) rfl cs_RX9_221 rfl (by decide) (Nat.le_of_ble_eq_true rfl) (m_marks (show 6 ≤ h.1 by have := hw.1; omega)) (fun r h1 q => ?_)
  obtain ⟨rfl, e9⟩ := q; subst e9
  change mi_WX _ pP X kX9_toldOfSector 3 1 9 55 [(5, .int 0), (4, .int 0), (3, .null), (0, .ref M), (1, .int (nI k)), (2, .int 3)] [.ref h.1] (mi_psh h (.inl (0, 5, .inl (va_up (va_up (va_up (va_up (va_up (fun _ => 0) 0 1) 1 0) 2 0) 3 0) 4 0)))) _
  refine mi_blk okX9_toldOfSector 4 (pc' := 63) (lv' := [(5, .ref h.1), (4, .int 0), (3, .null), (0, .ref M), (1, .int (nI k)), (2, .int 3)]) (st' := [.int 60, .int (nI k), .int 1000]) rfl ?_
  refine mi_idiv okX9_toldOfSector rfl (by decide) ?_
  refine mi_blk okX9_toldOfSector 1 (pc' := 65) (lv' := [(5, .ref h.1), (4, .int 0), (3, .null), (0, .ref M), (1, .int (nI k)), (2, .int 3)]) (st' := [.int 3, .int ((nI k) / 60), .int 1000]) rfl ?_
  refine mi_irem okX9_toldOfSector rfl (by decide) ?_
  refine mi_blk okX9_toldOfSector 4 (pc' := 71) (lv' := [(5, .ref h.1), (4, .int 0), (3, .null), (0, .ref M), (1, .int (nI k)), (2, .int 3)]) (st' := [.int 5, .int (nI k), .int 10, .int (1000 * (((nI k) / 60) - ((nI k) / 60) / 3 * 3))]) rfl ?_
  refine mi_idiv okX9_toldOfSector rfl (by decide) ?_
  refine mi_blk okX9_toldOfSector 1 (pc' := 74) (lv' := [(5, .ref h.1), (4, .int 0), (3, .null), (0, .ref M), (1, .int (nI k)), (2, .int 3)]) (st' := [.int 12, .int ((nI k) / 5), .int 10, .int (1000 * (((nI k) / 60) - ((nI k) / 60) / 3 * 3))]) rfl ?_
  refine mi_irem okX9_toldOfSector rfl (by decide) ?_
  refine mi_blk okX9_toldOfSector 4 (pc' := 79) (lv' := [(5, .ref h.1), (4, .int 0), (3, .null), (0, .ref M), (1, .int (nI k)), (2, .int 3)]) (st' := [.int 5, .int (nI k), .int ((1000 * (((nI k) / 60) - ((nI k) / 60) / 3 * 3)) + (10 * (((nI k) / 5) - ((nI k) / 5) / 12 * 12)))]) rfl ?_
  refine mi_irem okX9_toldOfSector rfl (by decide) ?_
  refine mi_blk okX9_toldOfSector 3 (pc' := 85) (lv' := [(6, .int (((1000 * (((nI k) / 60) - ((nI k) / 60) / 3 * 3)) + (10 * (((nI k) / 5) - ((nI k) / 5) / 12 * 12))) + ((nI k) - (nI k) / 5 * 5))), (5, .ref h.1), (4, .int 0), (3, .null), (0, .ref M), (1, .int (nI k)), (2, .int 3)]) (st' := [.int 9]) rfl ?_
  refine mi_newa okX9_toldOfSector (mc := 0) (ms := 0) (t := 0) (N := 9) (z := .inl (fun _ => 0)) rfl rfl ac_int (by decide) (by decide) (by decide) (fun _ => rfl) (fun _ => rfl) ?_
  change mi_WX _ pP X kX9_toldOfSector 3 0 0 87 [(6, .int (((1000 * (((nI k) / 60) - ((nI k) / 60) / 3 * 3)) + (10 * (((nI k) / 5) - ((nI k) / 5) / 12 * 12))) + ((nI k) - (nI k) / 5 * 5))), (5, .ref h.1), (4, .int 0), (3, .null), (0, .ref M), (1, .int (nI k)), (2, .int 3)] [.ref (h.1 + 1)] (mi_psh (mi_psh h (.inl (0, 5, .inl (va_up (va_up (va_up (va_up (va_up (fun _ => 0) 0 1) 1 0) 2 0) 3 0) 4 0)))) (.inl (0, 9, .inl (fun _ => 0)))) _
  refine mi_blk okX9_toldOfSector 3 (pc' := 90) (lv' := [(6, .int (((1000 * (((nI k) / 60) - ((nI k) / 60) / 3 * 3)) + (10 * (((nI k) / 5) - ((nI k) / 5) / 12 * 12))) + ((nI k) - (nI k) / 5 * 5))), (5, .ref h.1), (4, .int 0), (3, .null), (0, .ref M), (1, .int (nI k)), (2, .int 3)]) (st' := [.ref M, .int 0, .ref (h.1 + 1), .ref (h.1 + 1)]) rfl ?_
  refine mi_getf okX9_toldOfSector rfl fg_RX9_25 (show 6 ≤ _ by have := hw.1; omega) (Nat.lt_succ_of_lt (Nat.lt_succ_of_lt (show _ < h.1 by have := hw.1; omega))) ((mi_psh_lt (Nat.lt_succ_of_lt (show _ < h.1 by have := hw.1; omega))).trans ((mi_psh_lt (show _ < h.1 by have := hw.1; omega)).trans hc)) (v := .ref (M + 4)) rfl ?_
  refine mi_blk okX9_toldOfSector 1 (pc' := 94) (lv' := [(6, .int (((1000 * (((nI k) / 60) - ((nI k) / 60) / 3 * 3)) + (10 * (((nI k) / 5) - ((nI k) / 5) / 12 * 12))) + ((nI k) - (nI k) / 5 * 5))), (5, .ref h.1), (4, .int 0), (3, .null), (0, .ref M), (1, .int (nI k)), (2, .int 3)]) (st' := [.int (nI k), .ref (M + 4), .int 0, .ref (h.1 + 1), .ref (h.1 + 1)]) rfl ?_
  refine mo_iao okX9_toldOfSector (k := k) rfl ((hw.psh _).psh _) hk ?_
  refine mo_ist okX9_toldOfSector (j := 0) rfl (by have := hw.1; omega) (Nat.lt_succ_self _) mi_psh_self rfl (by decide) (by decide) ?_
  rw [mi_set_psh]
  refine mi_blk okX9_toldOfSector 3 (pc' := 99) (lv' := [(6, .int (((1000 * (((nI k) / 60) - ((nI k) / 60) / 3 * 3)) + (10 * (((nI k) / 5) - ((nI k) / 5) / 12 * 12))) + ((nI k) - (nI k) / 5 * 5))), (5, .ref h.1), (4, .int 0), (3, .null), (0, .ref M), (1, .int (nI k)), (2, .int 3)]) (st' := [.null, .int 1, .ref (h.1 + 1), .ref (h.1 + 1)]) rfl ?_
  refine mi_ifnull_n okX9_toldOfSector rfl rfl ?_
  refine mi_blk okX9_toldOfSector 1 (pc' := 107) (lv' := [(6, .int (((1000 * (((nI k) / 60) - ((nI k) / 60) / 3 * 3)) + (10 * (((nI k) / 5) - ((nI k) / 5) / 12 * 12))) + ((nI k) - (nI k) / 5 * 5))), (5, .ref h.1), (4, .int 0), (3, .null), (0, .ref M), (1, .int (nI k)), (2, .int 3)]) (st' := [.int 0, .int 1, .ref (h.1 + 1), .ref (h.1 + 1)]) rfl ?_
  refine mi_callS okX9_toldOfSector (mc := 0) (ms := 0) (mc' := 0) (ms' := 0) (As := [.int 0]) (st := [.int 1, .ref (h.1 + 1), .ref (h.1 + 1)]) rfl cs_RX9_217 rfl (by decide) (Nat.le_of_ble_eq_true rfl) m_one_0 (fun r h1 q => ?_)
  obtain ⟨rfl, e9⟩ := q; have e9 := e9.symm; subst e9
  change mi_WX _ pP X kX9_toldOfSector 3 0 0 110 [(6, .int (((1000 * (((nI k) / 60) - ((nI k) / 60) / 3 * 3)) + (10 * (((nI k) / 5) - ((nI k) / 5) / 12 * 12))) + ((nI k) - (nI k) / 5 * 5))), (5, .ref h.1), (4, .int 0), (3, .null), (0, .ref M), (1, .int (nI k)), (2, .int 3)] [.int 0, .int 1, .ref (h.1 + 1), .ref (h.1 + 1)] (mi_psh (mi_psh h (.inl (0, 5, .inl (va_up (va_up (va_up (va_up (va_up (fun _ => 0) 0 1) 1 0) 2 0) 3 0) 4 0)))) (.inl (0, 9, .inl (va_up (fun _ => 0) 0 (-1))))) _
  refine mo_ist okX9_toldOfSector (j := 1) rfl (by have := hw.1; omega) (Nat.lt_succ_self _) mi_psh_self rfl (by decide) (by decide) ?_
  rw [mi_set_psh]
  refine mi_blk okX9_toldOfSector 3 (pc' := 115) (lv' := [(6, .int (((1000 * (((nI k) / 60) - ((nI k) / 60) / 3 * 3)) + (10 * (((nI k) / 5) - ((nI k) / 5) / 12 * 12))) + ((nI k) - (nI k) / 5 * 5))), (5, .ref h.1), (4, .int 0), (3, .null), (0, .ref M), (1, .int (nI k)), (2, .int 3)]) (st' := [.int 0, .int 2, .ref (h.1 + 1), .ref (h.1 + 1)]) rfl ?_
  refine mo_ist okX9_toldOfSector (j := 2) rfl (by have := hw.1; omega) (Nat.lt_succ_self _) mi_psh_self rfl (by decide) (by decide) ?_
  rw [mi_set_psh]
  refine mi_blk okX9_toldOfSector 4 (pc' := 120) (lv' := [(6, .int (((1000 * (((nI k) / 60) - ((nI k) / 60) / 3 * 3)) + (10 * (((nI k) / 5) - ((nI k) / 5) / 12 * 12))) + ((nI k) - (nI k) / 5 * 5))), (5, .ref h.1), (4, .int 0), (3, .null), (0, .ref M), (1, .int (nI k)), (2, .int 3)]) (st' := [.int (nI k), .ref M, .int 3, .ref (h.1 + 1), .ref (h.1 + 1)]) rfl ?_
  refine mi_callV okX9_toldOfSector (mc := 0) (ms := 0) (mc' := 0) (ms' := 0) (b := M) (As := [.int (nI k)]) (st := [.int 3, .ref (h.1 + 1), .ref (h.1 + 1)]) rfl cv_RX9_104 rfl (by decide) (show 6 ≤ _ by have := hw.1; omega) (Nat.lt_succ_of_lt (Nat.lt_succ_of_lt (show _ < h.1 by have := hw.1; omega))) ((mi_psh_lt (Nat.lt_succ_of_lt (show _ < h.1 by have := hw.1; omega))).trans ((mi_psh_lt (show _ < h.1 by have := hw.1; omega)).trans hc)) rfl (Nat.le_of_ble_eq_true rfl) (m_worth ((hw.psh _).psh _) ((mi_psh_lt (Nat.lt_succ_of_lt (show _ < h.1 by have := hw.1; omega))).trans ((mi_psh_lt (show _ < h.1 by have := hw.1; omega)).trans hc)) hk) (fun r h1 q => ?_)
  obtain ⟨rfl, e9⟩ := q; have e9 := e9.symm; subst e9
  change mi_WX _ pP X kX9_toldOfSector 3 0 0 123 [(6, .int (((1000 * (((nI k) / 60) - ((nI k) / 60) / 3 * 3)) + (10 * (((nI k) / 5) - ((nI k) / 5) / 12 * 12))) + ((nI k) - (nI k) / 5 * 5))), (5, .ref h.1), (4, .int 0), (3, .null), (0, .ref M), (1, .int (nI k)), (2, .int 3)] [.int 2, .int 3, .ref (h.1 + 1), .ref (h.1 + 1)] (mi_psh (mi_psh h (.inl (0, 5, .inl (va_up (va_up (va_up (va_up (va_up (fun _ => 0) 0 1) 1 0) 2 0) 3 0) 4 0)))) (.inl (0, 9, .inl (va_up (va_up (va_up (fun _ => 0) 0 (-1)) 1 0) 2 0)))) _
  refine mo_ist okX9_toldOfSector (j := 3) rfl (by have := hw.1; omega) (Nat.lt_succ_self _) mi_psh_self rfl (by decide) (by decide) ?_
  rw [mi_set_psh]
  refine mi_blk okX9_toldOfSector 4 (pc' := 129) (lv' := [(6, .int (((1000 * (((nI k) / 60) - ((nI k) / 60) / 3 * 3)) + (10 * (((nI k) / 5) - ((nI k) / 5) / 12 * 12))) + ((nI k) - (nI k) / 5 * 5))), (5, .ref h.1), (4, .int 0), (3, .null), (0, .ref M), (1, .int (nI k)), (2, .int 3)]) (st' := [.int 2, .ref h.1, .int 4, .ref (h.1 + 1), .ref (h.1 + 1)]) rfl ?_
  refine mo_ild okX9_toldOfSector (j := 2) (v := 0) rfl (show 6 ≤ h.1 by have := hw.1; omega) (Nat.lt_succ_of_lt (Nat.lt_succ_self _)) ((mi_psh_lt (Nat.lt_succ_self _)).trans mi_psh_self) rfl (by decide) (by decide) rfl ?_
  refine mo_ist okX9_toldOfSector (j := 4) rfl (by have := hw.1; omega) (Nat.lt_succ_self _) mi_psh_self rfl (by decide) (by decide) ?_
  rw [mi_set_psh]
  refine mi_blk okX9_toldOfSector 4 (pc' := 136) (lv' := [(6, .int (((1000 * (((nI k) / 60) - ((nI k) / 60) / 3 * 3)) + (10 * (((nI k) / 5) - ((nI k) / 5) / 12 * 12))) + ((nI k) - (nI k) / 5 * 5))), (5, .ref h.1), (4, .int 0), (3, .null), (0, .ref M), (1, .int (nI k)), (2, .int 3)]) (st' := [.int 1, .ref h.1, .int 5, .ref (h.1 + 1), .ref (h.1 + 1)]) rfl ?_
  refine mo_ild okX9_toldOfSector (j := 1) (v := 0) rfl (show 6 ≤ h.1 by have := hw.1; omega) (Nat.lt_succ_of_lt (Nat.lt_succ_self _)) ((mi_psh_lt (Nat.lt_succ_self _)).trans mi_psh_self) rfl (by decide) (by decide) rfl ?_
  refine mo_ist okX9_toldOfSector (j := 5) rfl (by have := hw.1; omega) (Nat.lt_succ_self _) mi_psh_self rfl (by decide) (by decide) ?_
  rw [mi_set_psh]
  refine mi_blk okX9_toldOfSector 4 (pc' := 144) (lv' := [(6, .int (((1000 * (((nI k) / 60) - ((nI k) / 60) / 3 * 3)) + (10 * (((nI k) / 5) - ((nI k) / 5) / 12 * 12))) + ((nI k) - (nI k) / 5 * 5))), (5, .ref h.1), (4, .int 0), (3, .null), (0, .ref M), (1, .int (nI k)), (2, .int 3)]) (st' := [.int 3, .ref h.1, .int 6, .ref (h.1 + 1), .ref (h.1 + 1)]) rfl ?_
  refine mo_ild okX9_toldOfSector (j := 3) (v := 0) rfl (show 6 ≤ h.1 by have := hw.1; omega) (Nat.lt_succ_of_lt (Nat.lt_succ_self _)) ((mi_psh_lt (Nat.lt_succ_self _)).trans mi_psh_self) rfl (by decide) (by decide) rfl ?_
  refine mo_ist okX9_toldOfSector (j := 6) rfl (by have := hw.1; omega) (Nat.lt_succ_self _) mi_psh_self rfl (by decide) (by decide) ?_
  rw [mi_set_psh]
  refine mi_blk okX9_toldOfSector 3 (pc' := 150) (lv' := [(6, .int (((1000 * (((nI k) / 60) - ((nI k) / 60) / 3 * 3)) + (10 * (((nI k) / 5) - ((nI k) / 5) / 12 * 12))) + ((nI k) - (nI k) / 5 * 5))), (5, .ref h.1), (4, .int 0), (3, .null), (0, .ref M), (1, .int (nI k)), (2, .int 3)]) (st' := [.int (nI k), .int 7, .ref (h.1 + 1), .ref (h.1 + 1)]) rfl ?_
  refine mi_callS okX9_toldOfSector (mc := 0) (ms := 0) (mc' := 0) (ms' := 0) (As := [.int (nI k)]) (st := [.int 7, .ref (h.1 + 1), .ref (h.1 + 1)]) rfl cs_RX9_171 rfl (by decide) (Nat.le_of_ble_eq_true rfl) (m_turnOf hk) (fun r h1 q => ?_)
  obtain ⟨rfl, e9⟩ := q; have e9 := e9.symm; subst e9
  change mi_WX _ pP X kX9_toldOfSector 3 0 0 153 [(6, .int (((1000 * (((nI k) / 60) - ((nI k) / 60) / 3 * 3)) + (10 * (((nI k) / 5) - ((nI k) / 5) / 12 * 12))) + ((nI k) - (nI k) / 5 * 5))), (5, .ref h.1), (4, .int 0), (3, .null), (0, .ref M), (1, .int (nI k)), (2, .int 3)] [.int (sp_turn (nI k)), .int 7, .ref (h.1 + 1), .ref (h.1 + 1)] (mi_psh (mi_psh h (.inl (0, 5, .inl (va_up (va_up (va_up (va_up (va_up (fun _ => 0) 0 1) 1 0) 2 0) 3 0) 4 0)))) (.inl (0, 9, .inl (va_up (va_up (va_up (va_up (va_up (va_up (va_up (fun _ => 0) 0 (-1)) 1 0) 2 0) 3 2) 4 0) 5 0) 6 0)))) _
  refine mo_ist okX9_toldOfSector (j := 7) rfl (by have := hw.1; omega) (Nat.lt_succ_self _) mi_psh_self rfl (by decide) (by decide) ?_
  rw [mi_set_psh]
  refine mi_blk okX9_toldOfSector 3 (pc' := 159) (lv' := [(6, .int (((1000 * (((nI k) / 60) - ((nI k) / 60) / 3 * 3)) + (10 * (((nI k) / 5) - ((nI k) / 5) / 12 * 12))) + ((nI k) - (nI k) / 5 * 5))), (5, .ref h.1), (4, .int 0), (3, .null), (0, .ref M), (1, .int (nI k)), (2, .int 3)]) (st' := [.int (((1000 * (((nI k) / 60) - ((nI k) / 60) / 3 * 3)) + (10 * (((nI k) / 5) - ((nI k) / 5) / 12 * 12))) + ((nI k) - (nI k) / 5 * 5)), .int 8, .ref (h.1 + 1), .ref (h.1 + 1)]) rfl ?_
  refine mo_ist okX9_toldOfSector (j := 8) rfl (by have := hw.1; omega) (Nat.lt_succ_self _) mi_psh_self rfl (by decide) (by decide) ?_
  rw [mi_set_psh]
  refine mi_blk okX9_toldOfSector 3 (pc' := 165) (lv' := [(7, .ref (h.1 + 1)), (6, .int (((1000 * (((nI k) / 60) - ((nI k) / 60) / 3 * 3)) + (10 * (((nI k) / 5) - ((nI k) / 5) / 12 * 12))) + ((nI k) - (nI k) / 5 * 5))), (5, .ref h.1), (4, .int 0), (3, .null), (0, .ref M), (1, .int (nI k)), (2, .int 3)]) (st' := [.int 3, .ref (h.1 + 1)]) rfl ?_
  refine mo_ild okX9_toldOfSector (j := 3) (v := 2) rfl (by have := hw.1; omega) (Nat.lt_succ_self _) mi_psh_self rfl (by decide) (by decide) rfl ?_
  exact mi_ret_i okX9_toldOfSector rfl rfl rfl ⟨rfl, (tp.rf.psh _).psh _⟩
set_option maxHeartbeats 4000000 in
set_option maxRecDepth 100000 in
theorem m_toldOfSector_4 {X : mi_X} {h : mi_H} {M : Nat} (hw : mo_W M h) {th : Int32} {u : mo_U} (hc : h.2 M = mo_c M th u) {k : Nat} (hk : k < 240) : mi_S pP X kX9_toldOfSector 3 [.ref M, .int (nI k), .int 4] h 2 14 (fun r h1 => r = some (.int 0) ∧ tp h h1) := by
  refine enX9_toldOfSector (Nat.le_of_ble_eq_true rfl) ?_
  refine mi_blk okX9_toldOfSector 1 (pc' := 1) (lv' := [(0, .ref M), (1, .int (nI k)), (2, .int 4)]) (st' := [.ref M]) rfl ?_
  refine mi_getf okX9_toldOfSector rfl fg_RX9_11 (show 6 ≤ _ by have := hw.1; omega) (show _ < h.1 by have := hw.1; omega) hc (v := .ref (M + 1)) rfl ?_
  refine mi_blk okX9_toldOfSector 1 (pc' := 5) (lv' := [(0, .ref M), (1, .int (nI k)), (2, .int 4)]) (st' := [.int (nI k), .ref (M + 1)]) rfl ?_
  refine mo_aab okX9_toldOfSector (k := k) rfl hw hk ?_
  refine mi_blk okX9_toldOfSector 7 (pc' := 17) (lv' := [(5, .int 0), (4, .int 0), (3, .null), (0, .ref M), (1, .int (nI k)), (2, .int 4)]) (st' := [.int 16, .int 0]) rfl ?_
  refine mi_ic_ge okX9_toldOfSector rfl rfl (fun c_17 => absurd c_17 (by decide)) (fun c_17 => ?_)
  refine mi_blk okX9_toldOfSector 1 (pc' := 21) (lv' := [(5, .int 0), (4, .int 0), (3, .null), (0, .ref M), (1, .int (nI k)), (2, .int 4)]) (st' := [.null]) rfl ?_
  refine mi_ifnull_n okX9_toldOfSector rfl rfl ?_
  refine mi_blk okX9_toldOfSector 1 (pc' := 52) (lv' := [(5, .int 0), (4, .int 0), (3, .null), (0, .ref M), (1, .int (nI k)), (2, .int 4)]) (st' := [.null]) rfl ?_
  refine mi_callS okX9_toldOfSector (mc := 1) (ms := 9) (mc' := 1) (ms' := 5) (As := [.null]) (st := []) rfl cs_RX9_221 rfl (by decide) (Nat.le_of_ble_eq_true rfl) (m_marks (show 6 ≤ h.1 by have := hw.1; omega)) (fun r h1 q => ?_)
  obtain ⟨rfl, e9⟩ := q; subst e9
  change mi_WX _ pP X kX9_toldOfSector 3 1 9 55 [(5, .int 0), (4, .int 0), (3, .null), (0, .ref M), (1, .int (nI k)), (2, .int 4)] [.ref h.1] (mi_psh h (.inl (0, 5, .inl (va_up (va_up (va_up (va_up (va_up (fun _ => 0) 0 1) 1 0) 2 0) 3 0) 4 0)))) _
  refine mi_blk okX9_toldOfSector 4 (pc' := 63) (lv' := [(5, .ref h.1), (4, .int 0), (3, .null), (0, .ref M), (1, .int (nI k)), (2, .int 4)]) (st' := [.int 60, .int (nI k), .int 1000]) rfl ?_
  refine mi_idiv okX9_toldOfSector rfl (by decide) ?_
  refine mi_blk okX9_toldOfSector 1 (pc' := 65) (lv' := [(5, .ref h.1), (4, .int 0), (3, .null), (0, .ref M), (1, .int (nI k)), (2, .int 4)]) (st' := [.int 3, .int ((nI k) / 60), .int 1000]) rfl ?_
  refine mi_irem okX9_toldOfSector rfl (by decide) ?_
  refine mi_blk okX9_toldOfSector 4 (pc' := 71) (lv' := [(5, .ref h.1), (4, .int 0), (3, .null), (0, .ref M), (1, .int (nI k)), (2, .int 4)]) (st' := [.int 5, .int (nI k), .int 10, .int (1000 * (((nI k) / 60) - ((nI k) / 60) / 3 * 3))]) rfl ?_
  refine mi_idiv okX9_toldOfSector rfl (by decide) ?_
  refine mi_blk okX9_toldOfSector 1 (pc' := 74) (lv' := [(5, .ref h.1), (4, .int 0), (3, .null), (0, .ref M), (1, .int (nI k)), (2, .int 4)]) (st' := [.int 12, .int ((nI k) / 5), .int 10, .int (1000 * (((nI k) / 60) - ((nI k) / 60) / 3 * 3))]) rfl ?_
  refine mi_irem okX9_toldOfSector rfl (by decide) ?_
  refine mi_blk okX9_toldOfSector 4 (pc' := 79) (lv' := [(5, .ref h.1), (4, .int 0), (3, .null), (0, .ref M), (1, .int (nI k)), (2, .int 4)]) (st' := [.int 5, .int (nI k), .int ((1000 * (((nI k) / 60) - ((nI k) / 60) / 3 * 3)) + (10 * (((nI k) / 5) - ((nI k) / 5) / 12 * 12)))]) rfl ?_
  refine mi_irem okX9_toldOfSector rfl (by decide) ?_
  refine mi_blk okX9_toldOfSector 3 (pc' := 85) (lv' := [(6, .int (((1000 * (((nI k) / 60) - ((nI k) / 60) / 3 * 3)) + (10 * (((nI k) / 5) - ((nI k) / 5) / 12 * 12))) + ((nI k) - (nI k) / 5 * 5))), (5, .ref h.1), (4, .int 0), (3, .null), (0, .ref M), (1, .int (nI k)), (2, .int 4)]) (st' := [.int 9]) rfl ?_
  refine mi_newa okX9_toldOfSector (mc := 0) (ms := 0) (t := 0) (N := 9) (z := .inl (fun _ => 0)) rfl rfl ac_int (by decide) (by decide) (by decide) (fun _ => rfl) (fun _ => rfl) ?_
  change mi_WX _ pP X kX9_toldOfSector 3 0 0 87 [(6, .int (((1000 * (((nI k) / 60) - ((nI k) / 60) / 3 * 3)) + (10 * (((nI k) / 5) - ((nI k) / 5) / 12 * 12))) + ((nI k) - (nI k) / 5 * 5))), (5, .ref h.1), (4, .int 0), (3, .null), (0, .ref M), (1, .int (nI k)), (2, .int 4)] [.ref (h.1 + 1)] (mi_psh (mi_psh h (.inl (0, 5, .inl (va_up (va_up (va_up (va_up (va_up (fun _ => 0) 0 1) 1 0) 2 0) 3 0) 4 0)))) (.inl (0, 9, .inl (fun _ => 0)))) _
  refine mi_blk okX9_toldOfSector 3 (pc' := 90) (lv' := [(6, .int (((1000 * (((nI k) / 60) - ((nI k) / 60) / 3 * 3)) + (10 * (((nI k) / 5) - ((nI k) / 5) / 12 * 12))) + ((nI k) - (nI k) / 5 * 5))), (5, .ref h.1), (4, .int 0), (3, .null), (0, .ref M), (1, .int (nI k)), (2, .int 4)]) (st' := [.ref M, .int 0, .ref (h.1 + 1), .ref (h.1 + 1)]) rfl ?_
  refine mi_getf okX9_toldOfSector rfl fg_RX9_25 (show 6 ≤ _ by have := hw.1; omega) (Nat.lt_succ_of_lt (Nat.lt_succ_of_lt (show _ < h.1 by have := hw.1; omega))) ((mi_psh_lt (Nat.lt_succ_of_lt (show _ < h.1 by have := hw.1; omega))).trans ((mi_psh_lt (show _ < h.1 by have := hw.1; omega)).trans hc)) (v := .ref (M + 4)) rfl ?_
  refine mi_blk okX9_toldOfSector 1 (pc' := 94) (lv' := [(6, .int (((1000 * (((nI k) / 60) - ((nI k) / 60) / 3 * 3)) + (10 * (((nI k) / 5) - ((nI k) / 5) / 12 * 12))) + ((nI k) - (nI k) / 5 * 5))), (5, .ref h.1), (4, .int 0), (3, .null), (0, .ref M), (1, .int (nI k)), (2, .int 4)]) (st' := [.int (nI k), .ref (M + 4), .int 0, .ref (h.1 + 1), .ref (h.1 + 1)]) rfl ?_
  refine mo_iao okX9_toldOfSector (k := k) rfl ((hw.psh _).psh _) hk ?_
  refine mo_ist okX9_toldOfSector (j := 0) rfl (by have := hw.1; omega) (Nat.lt_succ_self _) mi_psh_self rfl (by decide) (by decide) ?_
  rw [mi_set_psh]
  refine mi_blk okX9_toldOfSector 3 (pc' := 99) (lv' := [(6, .int (((1000 * (((nI k) / 60) - ((nI k) / 60) / 3 * 3)) + (10 * (((nI k) / 5) - ((nI k) / 5) / 12 * 12))) + ((nI k) - (nI k) / 5 * 5))), (5, .ref h.1), (4, .int 0), (3, .null), (0, .ref M), (1, .int (nI k)), (2, .int 4)]) (st' := [.null, .int 1, .ref (h.1 + 1), .ref (h.1 + 1)]) rfl ?_
  refine mi_ifnull_n okX9_toldOfSector rfl rfl ?_
  refine mi_blk okX9_toldOfSector 1 (pc' := 107) (lv' := [(6, .int (((1000 * (((nI k) / 60) - ((nI k) / 60) / 3 * 3)) + (10 * (((nI k) / 5) - ((nI k) / 5) / 12 * 12))) + ((nI k) - (nI k) / 5 * 5))), (5, .ref h.1), (4, .int 0), (3, .null), (0, .ref M), (1, .int (nI k)), (2, .int 4)]) (st' := [.int 0, .int 1, .ref (h.1 + 1), .ref (h.1 + 1)]) rfl ?_
  refine mi_callS okX9_toldOfSector (mc := 0) (ms := 0) (mc' := 0) (ms' := 0) (As := [.int 0]) (st := [.int 1, .ref (h.1 + 1), .ref (h.1 + 1)]) rfl cs_RX9_217 rfl (by decide) (Nat.le_of_ble_eq_true rfl) m_one_0 (fun r h1 q => ?_)
  obtain ⟨rfl, e9⟩ := q; have e9 := e9.symm; subst e9
  change mi_WX _ pP X kX9_toldOfSector 3 0 0 110 [(6, .int (((1000 * (((nI k) / 60) - ((nI k) / 60) / 3 * 3)) + (10 * (((nI k) / 5) - ((nI k) / 5) / 12 * 12))) + ((nI k) - (nI k) / 5 * 5))), (5, .ref h.1), (4, .int 0), (3, .null), (0, .ref M), (1, .int (nI k)), (2, .int 4)] [.int 0, .int 1, .ref (h.1 + 1), .ref (h.1 + 1)] (mi_psh (mi_psh h (.inl (0, 5, .inl (va_up (va_up (va_up (va_up (va_up (fun _ => 0) 0 1) 1 0) 2 0) 3 0) 4 0)))) (.inl (0, 9, .inl (va_up (fun _ => 0) 0 (-1))))) _
  refine mo_ist okX9_toldOfSector (j := 1) rfl (by have := hw.1; omega) (Nat.lt_succ_self _) mi_psh_self rfl (by decide) (by decide) ?_
  rw [mi_set_psh]
  refine mi_blk okX9_toldOfSector 3 (pc' := 115) (lv' := [(6, .int (((1000 * (((nI k) / 60) - ((nI k) / 60) / 3 * 3)) + (10 * (((nI k) / 5) - ((nI k) / 5) / 12 * 12))) + ((nI k) - (nI k) / 5 * 5))), (5, .ref h.1), (4, .int 0), (3, .null), (0, .ref M), (1, .int (nI k)), (2, .int 4)]) (st' := [.int 0, .int 2, .ref (h.1 + 1), .ref (h.1 + 1)]) rfl ?_
  refine mo_ist okX9_toldOfSector (j := 2) rfl (by have := hw.1; omega) (Nat.lt_succ_self _) mi_psh_self rfl (by decide) (by decide) ?_
  rw [mi_set_psh]
  refine mi_blk okX9_toldOfSector 4 (pc' := 120) (lv' := [(6, .int (((1000 * (((nI k) / 60) - ((nI k) / 60) / 3 * 3)) + (10 * (((nI k) / 5) - ((nI k) / 5) / 12 * 12))) + ((nI k) - (nI k) / 5 * 5))), (5, .ref h.1), (4, .int 0), (3, .null), (0, .ref M), (1, .int (nI k)), (2, .int 4)]) (st' := [.int (nI k), .ref M, .int 3, .ref (h.1 + 1), .ref (h.1 + 1)]) rfl ?_
  refine mi_callV okX9_toldOfSector (mc := 0) (ms := 0) (mc' := 0) (ms' := 0) (b := M) (As := [.int (nI k)]) (st := [.int 3, .ref (h.1 + 1), .ref (h.1 + 1)]) rfl cv_RX9_104 rfl (by decide) (show 6 ≤ _ by have := hw.1; omega) (Nat.lt_succ_of_lt (Nat.lt_succ_of_lt (show _ < h.1 by have := hw.1; omega))) ((mi_psh_lt (Nat.lt_succ_of_lt (show _ < h.1 by have := hw.1; omega))).trans ((mi_psh_lt (show _ < h.1 by have := hw.1; omega)).trans hc)) rfl (Nat.le_of_ble_eq_true rfl) (m_worth ((hw.psh _).psh _) ((mi_psh_lt (Nat.lt_succ_of_lt (show _ < h.1 by have := hw.1; omega))).trans ((mi_psh_lt (show _ < h.1 by have := hw.1; omega)).trans hc)) hk) (fun r h1 q => ?_)
  obtain ⟨rfl, e9⟩ := q; have e9 := e9.symm; subst e9
  change mi_WX _ pP X kX9_toldOfSector 3 0 0 123 [(6, .int (((1000 * (((nI k) / 60) - ((nI k) / 60) / 3 * 3)) + (10 * (((nI k) / 5) - ((nI k) / 5) / 12 * 12))) + ((nI k) - (nI k) / 5 * 5))), (5, .ref h.1), (4, .int 0), (3, .null), (0, .ref M), (1, .int (nI k)), (2, .int 4)] [.int 2, .int 3, .ref (h.1 + 1), .ref (h.1 + 1)] (mi_psh (mi_psh h (.inl (0, 5, .inl (va_up (va_up (va_up (va_up (va_up (fun _ => 0) 0 1) 1 0) 2 0) 3 0) 4 0)))) (.inl (0, 9, .inl (va_up (va_up (va_up (fun _ => 0) 0 (-1)) 1 0) 2 0)))) _
  refine mo_ist okX9_toldOfSector (j := 3) rfl (by have := hw.1; omega) (Nat.lt_succ_self _) mi_psh_self rfl (by decide) (by decide) ?_
  rw [mi_set_psh]
  refine mi_blk okX9_toldOfSector 4 (pc' := 129) (lv' := [(6, .int (((1000 * (((nI k) / 60) - ((nI k) / 60) / 3 * 3)) + (10 * (((nI k) / 5) - ((nI k) / 5) / 12 * 12))) + ((nI k) - (nI k) / 5 * 5))), (5, .ref h.1), (4, .int 0), (3, .null), (0, .ref M), (1, .int (nI k)), (2, .int 4)]) (st' := [.int 2, .ref h.1, .int 4, .ref (h.1 + 1), .ref (h.1 + 1)]) rfl ?_
  refine mo_ild okX9_toldOfSector (j := 2) (v := 0) rfl (show 6 ≤ h.1 by have := hw.1; omega) (Nat.lt_succ_of_lt (Nat.lt_succ_self _)) ((mi_psh_lt (Nat.lt_succ_self _)).trans mi_psh_self) rfl (by decide) (by decide) rfl ?_
  refine mo_ist okX9_toldOfSector (j := 4) rfl (by have := hw.1; omega) (Nat.lt_succ_self _) mi_psh_self rfl (by decide) (by decide) ?_
  rw [mi_set_psh]
  refine mi_blk okX9_toldOfSector 4 (pc' := 136) (lv' := [(6, .int (((1000 * (((nI k) / 60) - ((nI k) / 60) / 3 * 3)) + (10 * (((nI k) / 5) - ((nI k) / 5) / 12 * 12))) + ((nI k) - (nI k) / 5 * 5))), (5, .ref h.1), (4, .int 0), (3, .null), (0, .ref M), (1, .int (nI k)), (2, .int 4)]) (st' := [.int 1, .ref h.1, .int 5, .ref (h.1 + 1), .ref (h.1 + 1)]) rfl ?_
  refine mo_ild okX9_toldOfSector (j := 1) (v := 0) rfl (show 6 ≤ h.1 by have := hw.1; omega) (Nat.lt_succ_of_lt (Nat.lt_succ_self _)) ((mi_psh_lt (Nat.lt_succ_self _)).trans mi_psh_self) rfl (by decide) (by decide) rfl ?_
  refine mo_ist okX9_toldOfSector (j := 5) rfl (by have := hw.1; omega) (Nat.lt_succ_self _) mi_psh_self rfl (by decide) (by decide) ?_
  rw [mi_set_psh]
  refine mi_blk okX9_toldOfSector 4 (pc' := 144) (lv' := [(6, .int (((1000 * (((nI k) / 60) - ((nI k) / 60) / 3 * 3)) + (10 * (((nI k) / 5) - ((nI k) / 5) / 12 * 12))) + ((nI k) - (nI k) / 5 * 5))), (5, .ref h.1), (4, .int 0), (3, .null), (0, .ref M), (1, .int (nI k)), (2, .int 4)]) (st' := [.int 3, .ref h.1, .int 6, .ref (h.1 + 1), .ref (h.1 + 1)]) rfl ?_
  refine mo_ild okX9_toldOfSector (j := 3) (v := 0) rfl (show 6 ≤ h.1 by have := hw.1; omega) (Nat.lt_succ_of_lt (Nat.lt_succ_self _)) ((mi_psh_lt (Nat.lt_succ_self _)).trans mi_psh_self) rfl (by decide) (by decide) rfl ?_
  refine mo_ist okX9_toldOfSector (j := 6) rfl (by have := hw.1; omega) (Nat.lt_succ_self _) mi_psh_self rfl (by decide) (by decide) ?_
  rw [mi_set_psh]
  refine mi_blk okX9_toldOfSector 3 (pc' := 150) (lv' := [(6, .int (((1000 * (((nI k) / 60) - ((nI k) / 60) / 3 * 3)) + (10 * (((nI k) / 5) - ((nI k) / 5) / 12 * 12))) + ((nI k) - (nI k) / 5 * 5))), (5, .ref h.1), (4, .int 0), (3, .null), (0, .ref M), (1, .int (nI k)), (2, .int 4)]) (st' := [.int (nI k), .int 7, .ref (h.1 + 1), .ref (h.1 + 1)]) rfl ?_
  refine mi_callS okX9_toldOfSector (mc := 0) (ms := 0) (mc' := 0) (ms' := 0) (As := [.int (nI k)]) (st := [.int 7, .ref (h.1 + 1), .ref (h.1 + 1)]) rfl cs_RX9_171 rfl (by decide) (Nat.le_of_ble_eq_true rfl) (m_turnOf hk) (fun r h1 q => ?_)
  obtain ⟨rfl, e9⟩ := q; have e9 := e9.symm; subst e9
  change mi_WX _ pP X kX9_toldOfSector 3 0 0 153 [(6, .int (((1000 * (((nI k) / 60) - ((nI k) / 60) / 3 * 3)) + (10 * (((nI k) / 5) - ((nI k) / 5) / 12 * 12))) + ((nI k) - (nI k) / 5 * 5))), (5, .ref h.1), (4, .int 0), (3, .null), (0, .ref M), (1, .int (nI k)), (2, .int 4)] [.int (sp_turn (nI k)), .int 7, .ref (h.1 + 1), .ref (h.1 + 1)] (mi_psh (mi_psh h (.inl (0, 5, .inl (va_up (va_up (va_up (va_up (va_up (fun _ => 0) 0 1) 1 0) 2 0) 3 0) 4 0)))) (.inl (0, 9, .inl (va_up (va_up (va_up (va_up (va_up (va_up (va_up (fun _ => 0) 0 (-1)) 1 0) 2 0) 3 2) 4 0) 5 0) 6 0)))) _
  refine mo_ist okX9_toldOfSector (j := 7) rfl (by have := hw.1; omega) (Nat.lt_succ_self _) mi_psh_self rfl (by decide) (by decide) ?_
  rw [mi_set_psh]
  refine mi_blk okX9_toldOfSector 3 (pc' := 159) (lv' := [(6, .int (((1000 * (((nI k) / 60) - ((nI k) / 60) / 3 * 3)) + (10 * (((nI k) / 5) - ((nI k) / 5) / 12 * 12))) + ((nI k) - (nI k) / 5 * 5))), (5, .ref h.1), (4, .int 0), (3, .null), (0, .ref M), (1, .int (nI k)), (2, .int 4)]) (st' := [.int (((1000 * (((nI k) / 60) - ((nI k) / 60) / 3 * 3)) + (10 * (((nI k) / 5) - ((nI k) / 5) / 12 * 12))) + ((nI k) - (nI k) / 5 * 5)), .int 8, .ref (h.1 + 1), .ref (h.1 + 1)]) rfl ?_
  refine mo_ist okX9_toldOfSector (j := 8) rfl (by have := hw.1; omega) (Nat.lt_succ_self _) mi_psh_self rfl (by decide) (by decide) ?_
  rw [mi_set_psh]
  refine mi_blk okX9_toldOfSector 3 (pc' := 165) (lv' := [(7, .ref (h.1 + 1)), (6, .int (((1000 * (((nI k) / 60) - ((nI k) / 60) / 3 * 3)) + (10 * (((nI k) / 5) - ((nI k) / 5) / 12 * 12))) + ((nI k) - (nI k) / 5 * 5))), (5, .ref h.1), (4, .int 0), (3, .null), (0, .ref M), (1, .int (nI k)), (2, .int 4)]) (st' := [.int 4, .ref (h.1 + 1)]) rfl ?_
  refine mo_ild okX9_toldOfSector (j := 4) (v := 0) rfl (by have := hw.1; omega) (Nat.lt_succ_self _) mi_psh_self rfl (by decide) (by decide) rfl ?_
  exact mi_ret_i okX9_toldOfSector rfl rfl rfl ⟨rfl, (tp.rf.psh _).psh _⟩
set_option maxHeartbeats 4000000 in
set_option maxRecDepth 100000 in
theorem m_toldOfSector_5 {X : mi_X} {h : mi_H} {M : Nat} (hw : mo_W M h) {th : Int32} {u : mo_U} (hc : h.2 M = mo_c M th u) {k : Nat} (hk : k < 240) : mi_S pP X kX9_toldOfSector 3 [.ref M, .int (nI k), .int 5] h 2 14 (fun r h1 => r = some (.int 0) ∧ tp h h1) := by
  refine enX9_toldOfSector (Nat.le_of_ble_eq_true rfl) ?_
  refine mi_blk okX9_toldOfSector 1 (pc' := 1) (lv' := [(0, .ref M), (1, .int (nI k)), (2, .int 5)]) (st' := [.ref M]) rfl ?_
  refine mi_getf okX9_toldOfSector rfl fg_RX9_11 (show 6 ≤ _ by have := hw.1; omega) (show _ < h.1 by have := hw.1; omega) hc (v := .ref (M + 1)) rfl ?_
  refine mi_blk okX9_toldOfSector 1 (pc' := 5) (lv' := [(0, .ref M), (1, .int (nI k)), (2, .int 5)]) (st' := [.int (nI k), .ref (M + 1)]) rfl ?_
  refine mo_aab okX9_toldOfSector (k := k) rfl hw hk ?_
  refine mi_blk okX9_toldOfSector 7 (pc' := 17) (lv' := [(5, .int 0), (4, .int 0), (3, .null), (0, .ref M), (1, .int (nI k)), (2, .int 5)]) (st' := [.int 16, .int 0]) rfl ?_
  refine mi_ic_ge okX9_toldOfSector rfl rfl (fun c_17 => absurd c_17 (by decide)) (fun c_17 => ?_)
  refine mi_blk okX9_toldOfSector 1 (pc' := 21) (lv' := [(5, .int 0), (4, .int 0), (3, .null), (0, .ref M), (1, .int (nI k)), (2, .int 5)]) (st' := [.null]) rfl ?_
  refine mi_ifnull_n okX9_toldOfSector rfl rfl ?_
  refine mi_blk okX9_toldOfSector 1 (pc' := 52) (lv' := [(5, .int 0), (4, .int 0), (3, .null), (0, .ref M), (1, .int (nI k)), (2, .int 5)]) (st' := [.null]) rfl ?_
  refine mi_callS okX9_toldOfSector (mc := 1) (ms := 9) (mc' := 1) (ms' := 5) (As := [.null]) (st := []) rfl cs_RX9_221 rfl (by decide) (Nat.le_of_ble_eq_true rfl) (m_marks (show 6 ≤ h.1 by have := hw.1; omega)) (fun r h1 q => ?_)
  obtain ⟨rfl, e9⟩ := q; subst e9
  change mi_WX _ pP X kX9_toldOfSector 3 1 9 55 [(5, .int 0), (4, .int 0), (3, .null), (0, .ref M), (1, .int (nI k)), (2, .int 5)] [.ref h.1] (mi_psh h (.inl (0, 5, .inl (va_up (va_up (va_up (va_up (va_up (fun _ => 0) 0 1) 1 0) 2 0) 3 0) 4 0)))) _
  refine mi_blk okX9_toldOfSector 4 (pc' := 63) (lv' := [(5, .ref h.1), (4, .int 0), (3, .null), (0, .ref M), (1, .int (nI k)), (2, .int 5)]) (st' := [.int 60, .int (nI k), .int 1000]) rfl ?_
  refine mi_idiv okX9_toldOfSector rfl (by decide) ?_
  refine mi_blk okX9_toldOfSector 1 (pc' := 65) (lv' := [(5, .ref h.1), (4, .int 0), (3, .null), (0, .ref M), (1, .int (nI k)), (2, .int 5)]) (st' := [.int 3, .int ((nI k) / 60), .int 1000]) rfl ?_
  refine mi_irem okX9_toldOfSector rfl (by decide) ?_
  refine mi_blk okX9_toldOfSector 4 (pc' := 71) (lv' := [(5, .ref h.1), (4, .int 0), (3, .null), (0, .ref M), (1, .int (nI k)), (2, .int 5)]) (st' := [.int 5, .int (nI k), .int 10, .int (1000 * (((nI k) / 60) - ((nI k) / 60) / 3 * 3))]) rfl ?_
  refine mi_idiv okX9_toldOfSector rfl (by decide) ?_
  refine mi_blk okX9_toldOfSector 1 (pc' := 74) (lv' := [(5, .ref h.1), (4, .int 0), (3, .null), (0, .ref M), (1, .int (nI k)), (2, .int 5)]) (st' := [.int 12, .int ((nI k) / 5), .int 10, .int (1000 * (((nI k) / 60) - ((nI k) / 60) / 3 * 3))]) rfl ?_
  refine mi_irem okX9_toldOfSector rfl (by decide) ?_
  refine mi_blk okX9_toldOfSector 4 (pc' := 79) (lv' := [(5, .ref h.1), (4, .int 0), (3, .null), (0, .ref M), (1, .int (nI k)), (2, .int 5)]) (st' := [.int 5, .int (nI k), .int ((1000 * (((nI k) / 60) - ((nI k) / 60) / 3 * 3)) + (10 * (((nI k) / 5) - ((nI k) / 5) / 12 * 12)))]) rfl ?_
  refine mi_irem okX9_toldOfSector rfl (by decide) ?_
  refine mi_blk okX9_toldOfSector 3 (pc' := 85) (lv' := [(6, .int (((1000 * (((nI k) / 60) - ((nI k) / 60) / 3 * 3)) + (10 * (((nI k) / 5) - ((nI k) / 5) / 12 * 12))) + ((nI k) - (nI k) / 5 * 5))), (5, .ref h.1), (4, .int 0), (3, .null), (0, .ref M), (1, .int (nI k)), (2, .int 5)]) (st' := [.int 9]) rfl ?_
  refine mi_newa okX9_toldOfSector (mc := 0) (ms := 0) (t := 0) (N := 9) (z := .inl (fun _ => 0)) rfl rfl ac_int (by decide) (by decide) (by decide) (fun _ => rfl) (fun _ => rfl) ?_
  change mi_WX _ pP X kX9_toldOfSector 3 0 0 87 [(6, .int (((1000 * (((nI k) / 60) - ((nI k) / 60) / 3 * 3)) + (10 * (((nI k) / 5) - ((nI k) / 5) / 12 * 12))) + ((nI k) - (nI k) / 5 * 5))), (5, .ref h.1), (4, .int 0), (3, .null), (0, .ref M), (1, .int (nI k)), (2, .int 5)] [.ref (h.1 + 1)] (mi_psh (mi_psh h (.inl (0, 5, .inl (va_up (va_up (va_up (va_up (va_up (fun _ => 0) 0 1) 1 0) 2 0) 3 0) 4 0)))) (.inl (0, 9, .inl (fun _ => 0)))) _
  refine mi_blk okX9_toldOfSector 3 (pc' := 90) (lv' := [(6, .int (((1000 * (((nI k) / 60) - ((nI k) / 60) / 3 * 3)) + (10 * (((nI k) / 5) - ((nI k) / 5) / 12 * 12))) + ((nI k) - (nI k) / 5 * 5))), (5, .ref h.1), (4, .int 0), (3, .null), (0, .ref M), (1, .int (nI k)), (2, .int 5)]) (st' := [.ref M, .int 0, .ref (h.1 + 1), .ref (h.1 + 1)]) rfl ?_
  refine mi_getf okX9_toldOfSector rfl fg_RX9_25 (show 6 ≤ _ by have := hw.1; omega) (Nat.lt_succ_of_lt (Nat.lt_succ_of_lt (show _ < h.1 by have := hw.1; omega))) ((mi_psh_lt (Nat.lt_succ_of_lt (show _ < h.1 by have := hw.1; omega))).trans ((mi_psh_lt (show _ < h.1 by have := hw.1; omega)).trans hc)) (v := .ref (M + 4)) rfl ?_
  refine mi_blk okX9_toldOfSector 1 (pc' := 94) (lv' := [(6, .int (((1000 * (((nI k) / 60) - ((nI k) / 60) / 3 * 3)) + (10 * (((nI k) / 5) - ((nI k) / 5) / 12 * 12))) + ((nI k) - (nI k) / 5 * 5))), (5, .ref h.1), (4, .int 0), (3, .null), (0, .ref M), (1, .int (nI k)), (2, .int 5)]) (st' := [.int (nI k), .ref (M + 4), .int 0, .ref (h.1 + 1), .ref (h.1 + 1)]) rfl ?_
  refine mo_iao okX9_toldOfSector (k := k) rfl ((hw.psh _).psh _) hk ?_
  refine mo_ist okX9_toldOfSector (j := 0) rfl (by have := hw.1; omega) (Nat.lt_succ_self _) mi_psh_self rfl (by decide) (by decide) ?_
  rw [mi_set_psh]
  refine mi_blk okX9_toldOfSector 3 (pc' := 99) (lv' := [(6, .int (((1000 * (((nI k) / 60) - ((nI k) / 60) / 3 * 3)) + (10 * (((nI k) / 5) - ((nI k) / 5) / 12 * 12))) + ((nI k) - (nI k) / 5 * 5))), (5, .ref h.1), (4, .int 0), (3, .null), (0, .ref M), (1, .int (nI k)), (2, .int 5)]) (st' := [.null, .int 1, .ref (h.1 + 1), .ref (h.1 + 1)]) rfl ?_
  refine mi_ifnull_n okX9_toldOfSector rfl rfl ?_
  refine mi_blk okX9_toldOfSector 1 (pc' := 107) (lv' := [(6, .int (((1000 * (((nI k) / 60) - ((nI k) / 60) / 3 * 3)) + (10 * (((nI k) / 5) - ((nI k) / 5) / 12 * 12))) + ((nI k) - (nI k) / 5 * 5))), (5, .ref h.1), (4, .int 0), (3, .null), (0, .ref M), (1, .int (nI k)), (2, .int 5)]) (st' := [.int 0, .int 1, .ref (h.1 + 1), .ref (h.1 + 1)]) rfl ?_
  refine mi_callS okX9_toldOfSector (mc := 0) (ms := 0) (mc' := 0) (ms' := 0) (As := [.int 0]) (st := [.int 1, .ref (h.1 + 1), .ref (h.1 + 1)]) rfl cs_RX9_217 rfl (by decide) (Nat.le_of_ble_eq_true rfl) m_one_0 (fun r h1 q => ?_)
  obtain ⟨rfl, e9⟩ := q; have e9 := e9.symm; subst e9
  change mi_WX _ pP X kX9_toldOfSector 3 0 0 110 [(6, .int (((1000 * (((nI k) / 60) - ((nI k) / 60) / 3 * 3)) + (10 * (((nI k) / 5) - ((nI k) / 5) / 12 * 12))) + ((nI k) - (nI k) / 5 * 5))), (5, .ref h.1), (4, .int 0), (3, .null), (0, .ref M), (1, .int (nI k)), (2, .int 5)] [.int 0, .int 1, .ref (h.1 + 1), .ref (h.1 + 1)] (mi_psh (mi_psh h (.inl (0, 5, .inl (va_up (va_up (va_up (va_up (va_up (fun _ => 0) 0 1) 1 0) 2 0) 3 0) 4 0)))) (.inl (0, 9, .inl (va_up (fun _ => 0) 0 (-1))))) _
  refine mo_ist okX9_toldOfSector (j := 1) rfl (by have := hw.1; omega) (Nat.lt_succ_self _) mi_psh_self rfl (by decide) (by decide) ?_
  rw [mi_set_psh]
  refine mi_blk okX9_toldOfSector 3 (pc' := 115) (lv' := [(6, .int (((1000 * (((nI k) / 60) - ((nI k) / 60) / 3 * 3)) + (10 * (((nI k) / 5) - ((nI k) / 5) / 12 * 12))) + ((nI k) - (nI k) / 5 * 5))), (5, .ref h.1), (4, .int 0), (3, .null), (0, .ref M), (1, .int (nI k)), (2, .int 5)]) (st' := [.int 0, .int 2, .ref (h.1 + 1), .ref (h.1 + 1)]) rfl ?_
  refine mo_ist okX9_toldOfSector (j := 2) rfl (by have := hw.1; omega) (Nat.lt_succ_self _) mi_psh_self rfl (by decide) (by decide) ?_
  rw [mi_set_psh]
  refine mi_blk okX9_toldOfSector 4 (pc' := 120) (lv' := [(6, .int (((1000 * (((nI k) / 60) - ((nI k) / 60) / 3 * 3)) + (10 * (((nI k) / 5) - ((nI k) / 5) / 12 * 12))) + ((nI k) - (nI k) / 5 * 5))), (5, .ref h.1), (4, .int 0), (3, .null), (0, .ref M), (1, .int (nI k)), (2, .int 5)]) (st' := [.int (nI k), .ref M, .int 3, .ref (h.1 + 1), .ref (h.1 + 1)]) rfl ?_
  refine mi_callV okX9_toldOfSector (mc := 0) (ms := 0) (mc' := 0) (ms' := 0) (b := M) (As := [.int (nI k)]) (st := [.int 3, .ref (h.1 + 1), .ref (h.1 + 1)]) rfl cv_RX9_104 rfl (by decide) (show 6 ≤ _ by have := hw.1; omega) (Nat.lt_succ_of_lt (Nat.lt_succ_of_lt (show _ < h.1 by have := hw.1; omega))) ((mi_psh_lt (Nat.lt_succ_of_lt (show _ < h.1 by have := hw.1; omega))).trans ((mi_psh_lt (show _ < h.1 by have := hw.1; omega)).trans hc)) rfl (Nat.le_of_ble_eq_true rfl) (m_worth ((hw.psh _).psh _) ((mi_psh_lt (Nat.lt_succ_of_lt (show _ < h.1 by have := hw.1; omega))).trans ((mi_psh_lt (show _ < h.1 by have := hw.1; omega)).trans hc)) hk) (fun r h1 q => ?_)
  obtain ⟨rfl, e9⟩ := q; have e9 := e9.symm; subst e9
  change mi_WX _ pP X kX9_toldOfSector 3 0 0 123 [(6, .int (((1000 * (((nI k) / 60) - ((nI k) / 60) / 3 * 3)) + (10 * (((nI k) / 5) - ((nI k) / 5) / 12 * 12))) + ((nI k) - (nI k) / 5 * 5))), (5, .ref h.1), (4, .int 0), (3, .null), (0, .ref M), (1, .int (nI k)), (2, .int 5)] [.int 2, .int 3, .ref (h.1 + 1), .ref (h.1 + 1)] (mi_psh (mi_psh h (.inl (0, 5, .inl (va_up (va_up (va_up (va_up (va_up (fun _ => 0) 0 1) 1 0) 2 0) 3 0) 4 0)))) (.inl (0, 9, .inl (va_up (va_up (va_up (fun _ => 0) 0 (-1)) 1 0) 2 0)))) _
  refine mo_ist okX9_toldOfSector (j := 3) rfl (by have := hw.1; omega) (Nat.lt_succ_self _) mi_psh_self rfl (by decide) (by decide) ?_
  rw [mi_set_psh]
  refine mi_blk okX9_toldOfSector 4 (pc' := 129) (lv' := [(6, .int (((1000 * (((nI k) / 60) - ((nI k) / 60) / 3 * 3)) + (10 * (((nI k) / 5) - ((nI k) / 5) / 12 * 12))) + ((nI k) - (nI k) / 5 * 5))), (5, .ref h.1), (4, .int 0), (3, .null), (0, .ref M), (1, .int (nI k)), (2, .int 5)]) (st' := [.int 2, .ref h.1, .int 4, .ref (h.1 + 1), .ref (h.1 + 1)]) rfl ?_
  refine mo_ild okX9_toldOfSector (j := 2) (v := 0) rfl (show 6 ≤ h.1 by have := hw.1; omega) (Nat.lt_succ_of_lt (Nat.lt_succ_self _)) ((mi_psh_lt (Nat.lt_succ_self _)).trans mi_psh_self) rfl (by decide) (by decide) rfl ?_
  refine mo_ist okX9_toldOfSector (j := 4) rfl (by have := hw.1; omega) (Nat.lt_succ_self _) mi_psh_self rfl (by decide) (by decide) ?_
  rw [mi_set_psh]
  refine mi_blk okX9_toldOfSector 4 (pc' := 136) (lv' := [(6, .int (((1000 * (((nI k) / 60) - ((nI k) / 60) / 3 * 3)) + (10 * (((nI k) / 5) - ((nI k) / 5) / 12 * 12))) + ((nI k) - (nI k) / 5 * 5))), (5, .ref h.1), (4, .int 0), (3, .null), (0, .ref M), (1, .int (nI k)), (2, .int 5)]) (st' := [.int 1, .ref h.1, .int 5, .ref (h.1 + 1), .ref (h.1 + 1)]) rfl ?_
  refine mo_ild okX9_toldOfSector (j := 1) (v := 0) rfl (show 6 ≤ h.1 by have := hw.1; omega) (Nat.lt_succ_of_lt (Nat.lt_succ_self _)) ((mi_psh_lt (Nat.lt_succ_self _)).trans mi_psh_self) rfl (by decide) (by decide) rfl ?_
  refine mo_ist okX9_toldOfSector (j := 5) rfl (by have := hw.1; omega) (Nat.lt_succ_self _) mi_psh_self rfl (by decide) (by decide) ?_
  rw [mi_set_psh]
  refine mi_blk okX9_toldOfSector 4 (pc' := 144) (lv' := [(6, .int (((1000 * (((nI k) / 60) - ((nI k) / 60) / 3 * 3)) + (10 * (((nI k) / 5) - ((nI k) / 5) / 12 * 12))) + ((nI k) - (nI k) / 5 * 5))), (5, .ref h.1), (4, .int 0), (3, .null), (0, .ref M), (1, .int (nI k)), (2, .int 5)]) (st' := [.int 3, .ref h.1, .int 6, .ref (h.1 + 1), .ref (h.1 + 1)]) rfl ?_
  refine mo_ild okX9_toldOfSector (j := 3) (v := 0) rfl (show 6 ≤ h.1 by have := hw.1; omega) (Nat.lt_succ_of_lt (Nat.lt_succ_self _)) ((mi_psh_lt (Nat.lt_succ_self _)).trans mi_psh_self) rfl (by decide) (by decide) rfl ?_
  refine mo_ist okX9_toldOfSector (j := 6) rfl (by have := hw.1; omega) (Nat.lt_succ_self _) mi_psh_self rfl (by decide) (by decide) ?_
  rw [mi_set_psh]
  refine mi_blk okX9_toldOfSector 3 (pc' := 150) (lv' := [(6, .int (((1000 * (((nI k) / 60) - ((nI k) / 60) / 3 * 3)) + (10 * (((nI k) / 5) - ((nI k) / 5) / 12 * 12))) + ((nI k) - (nI k) / 5 * 5))), (5, .ref h.1), (4, .int 0), (3, .null), (0, .ref M), (1, .int (nI k)), (2, .int 5)]) (st' := [.int (nI k), .int 7, .ref (h.1 + 1), .ref (h.1 + 1)]) rfl ?_
  refine mi_callS okX9_toldOfSector (mc := 0) (ms := 0) (mc' := 0) (ms' := 0) (As := [.int (nI k)]) (st := [.int 7, .ref (h.1 + 1), .ref (h.1 + 1)]) rfl cs_RX9_171 rfl (by decide) (Nat.le_of_ble_eq_true rfl) (m_turnOf hk) (fun r h1 q => ?_)
  obtain ⟨rfl, e9⟩ := q; have e9 := e9.symm; subst e9
  change mi_WX _ pP X kX9_toldOfSector 3 0 0 153 [(6, .int (((1000 * (((nI k) / 60) - ((nI k) / 60) / 3 * 3)) + (10 * (((nI k) / 5) - ((nI k) / 5) / 12 * 12))) + ((nI k) - (nI k) / 5 * 5))), (5, .ref h.1), (4, .int 0), (3, .null), (0, .ref M), (1, .int (nI k)), (2, .int 5)] [.int (sp_turn (nI k)), .int 7, .ref (h.1 + 1), .ref (h.1 + 1)] (mi_psh (mi_psh h (.inl (0, 5, .inl (va_up (va_up (va_up (va_up (va_up (fun _ => 0) 0 1) 1 0) 2 0) 3 0) 4 0)))) (.inl (0, 9, .inl (va_up (va_up (va_up (va_up (va_up (va_up (va_up (fun _ => 0) 0 (-1)) 1 0) 2 0) 3 2) 4 0) 5 0) 6 0)))) _
  refine mo_ist okX9_toldOfSector (j := 7) rfl (by have := hw.1; omega) (Nat.lt_succ_self _) mi_psh_self rfl (by decide) (by decide) ?_
  rw [mi_set_psh]
  refine mi_blk okX9_toldOfSector 3 (pc' := 159) (lv' := [(6, .int (((1000 * (((nI k) / 60) - ((nI k) / 60) / 3 * 3)) + (10 * (((nI k) / 5) - ((nI k) / 5) / 12 * 12))) + ((nI k) - (nI k) / 5 * 5))), (5, .ref h.1), (4, .int 0), (3, .null), (0, .ref M), (1, .int (nI k)), (2, .int 5)]) (st' := [.int (((1000 * (((nI k) / 60) - ((nI k) / 60) / 3 * 3)) + (10 * (((nI k) / 5) - ((nI k) / 5) / 12 * 12))) + ((nI k) - (nI k) / 5 * 5)), .int 8, .ref (h.1 + 1), .ref (h.1 + 1)]) rfl ?_
  refine mo_ist okX9_toldOfSector (j := 8) rfl (by have := hw.1; omega) (Nat.lt_succ_self _) mi_psh_self rfl (by decide) (by decide) ?_
  rw [mi_set_psh]
  refine mi_blk okX9_toldOfSector 3 (pc' := 165) (lv' := [(7, .ref (h.1 + 1)), (6, .int (((1000 * (((nI k) / 60) - ((nI k) / 60) / 3 * 3)) + (10 * (((nI k) / 5) - ((nI k) / 5) / 12 * 12))) + ((nI k) - (nI k) / 5 * 5))), (5, .ref h.1), (4, .int 0), (3, .null), (0, .ref M), (1, .int (nI k)), (2, .int 5)]) (st' := [.int 5, .ref (h.1 + 1)]) rfl ?_
  refine mo_ild okX9_toldOfSector (j := 5) (v := 0) rfl (by have := hw.1; omega) (Nat.lt_succ_self _) mi_psh_self rfl (by decide) (by decide) rfl ?_
  exact mi_ret_i okX9_toldOfSector rfl rfl rfl ⟨rfl, (tp.rf.psh _).psh _⟩
set_option maxHeartbeats 4000000 in
set_option maxRecDepth 100000 in
theorem m_toldOfSector_6 {X : mi_X} {h : mi_H} {M : Nat} (hw : mo_W M h) {th : Int32} {u : mo_U} (hc : h.2 M = mo_c M th u) {k : Nat} (hk : k < 240) : mi_S pP X kX9_toldOfSector 3 [.ref M, .int (nI k), .int 6] h 2 14 (fun r h1 => r = some (.int 0) ∧ tp h h1) := by
  refine enX9_toldOfSector (Nat.le_of_ble_eq_true rfl) ?_
  refine mi_blk okX9_toldOfSector 1 (pc' := 1) (lv' := [(0, .ref M), (1, .int (nI k)), (2, .int 6)]) (st' := [.ref M]) rfl ?_
  refine mi_getf okX9_toldOfSector rfl fg_RX9_11 (show 6 ≤ _ by have := hw.1; omega) (show _ < h.1 by have := hw.1; omega) hc (v := .ref (M + 1)) rfl ?_
  refine mi_blk okX9_toldOfSector 1 (pc' := 5) (lv' := [(0, .ref M), (1, .int (nI k)), (2, .int 6)]) (st' := [.int (nI k), .ref (M + 1)]) rfl ?_
  refine mo_aab okX9_toldOfSector (k := k) rfl hw hk ?_
  refine mi_blk okX9_toldOfSector 7 (pc' := 17) (lv' := [(5, .int 0), (4, .int 0), (3, .null), (0, .ref M), (1, .int (nI k)), (2, .int 6)]) (st' := [.int 16, .int 0]) rfl ?_
  refine mi_ic_ge okX9_toldOfSector rfl rfl (fun c_17 => absurd c_17 (by decide)) (fun c_17 => ?_)
  refine mi_blk okX9_toldOfSector 1 (pc' := 21) (lv' := [(5, .int 0), (4, .int 0), (3, .null), (0, .ref M), (1, .int (nI k)), (2, .int 6)]) (st' := [.null]) rfl ?_
  refine mi_ifnull_n okX9_toldOfSector rfl rfl ?_
  refine mi_blk okX9_toldOfSector 1 (pc' := 52) (lv' := [(5, .int 0), (4, .int 0), (3, .null), (0, .ref M), (1, .int (nI k)), (2, .int 6)]) (st' := [.null]) rfl ?_
  refine mi_callS okX9_toldOfSector (mc := 1) (ms := 9) (mc' := 1) (ms' := 5) (As := [.null]) (st := []) rfl cs_RX9_221 rfl (by decide) (Nat.le_of_ble_eq_true rfl) (m_marks (show 6 ≤ h.1 by have := hw.1; omega)) (fun r h1 q => ?_)
  obtain ⟨rfl, e9⟩ := q; subst e9
  change mi_WX _ pP X kX9_toldOfSector 3 1 9 55 [(5, .int 0), (4, .int 0), (3, .null), (0, .ref M), (1, .int (nI k)), (2, .int 6)] [.ref h.1] (mi_psh h (.inl (0, 5, .inl (va_up (va_up (va_up (va_up (va_up (fun _ => 0) 0 1) 1 0) 2 0) 3 0) 4 0)))) _
  refine mi_blk okX9_toldOfSector 4 (pc' := 63) (lv' := [(5, .ref h.1), (4, .int 0), (3, .null), (0, .ref M), (1, .int (nI k)), (2, .int 6)]) (st' := [.int 60, .int (nI k), .int 1000]) rfl ?_
  refine mi_idiv okX9_toldOfSector rfl (by decide) ?_
  refine mi_blk okX9_toldOfSector 1 (pc' := 65) (lv' := [(5, .ref h.1), (4, .int 0), (3, .null), (0, .ref M), (1, .int (nI k)), (2, .int 6)]) (st' := [.int 3, .int ((nI k) / 60), .int 1000]) rfl ?_
  refine mi_irem okX9_toldOfSector rfl (by decide) ?_
  refine mi_blk okX9_toldOfSector 4 (pc' := 71) (lv' := [(5, .ref h.1), (4, .int 0), (3, .null), (0, .ref M), (1, .int (nI k)), (2, .int 6)]) (st' := [.int 5, .int (nI k), .int 10, .int (1000 * (((nI k) / 60) - ((nI k) / 60) / 3 * 3))]) rfl ?_
  refine mi_idiv okX9_toldOfSector rfl (by decide) ?_
  refine mi_blk okX9_toldOfSector 1 (pc' := 74) (lv' := [(5, .ref h.1), (4, .int 0), (3, .null), (0, .ref M), (1, .int (nI k)), (2, .int 6)]) (st' := [.int 12, .int ((nI k) / 5), .int 10, .int (1000 * (((nI k) / 60) - ((nI k) / 60) / 3 * 3))]) rfl ?_
  refine mi_irem okX9_toldOfSector rfl (by decide) ?_
  refine mi_blk okX9_toldOfSector 4 (pc' := 79) (lv' := [(5, .ref h.1), (4, .int 0), (3, .null), (0, .ref M), (1, .int (nI k)), (2, .int 6)]) (st' := [.int 5, .int (nI k), .int ((1000 * (((nI k) / 60) - ((nI k) / 60) / 3 * 3)) + (10 * (((nI k) / 5) - ((nI k) / 5) / 12 * 12)))]) rfl ?_
  refine mi_irem okX9_toldOfSector rfl (by decide) ?_
  refine mi_blk okX9_toldOfSector 3 (pc' := 85) (lv' := [(6, .int (((1000 * (((nI k) / 60) - ((nI k) / 60) / 3 * 3)) + (10 * (((nI k) / 5) - ((nI k) / 5) / 12 * 12))) + ((nI k) - (nI k) / 5 * 5))), (5, .ref h.1), (4, .int 0), (3, .null), (0, .ref M), (1, .int (nI k)), (2, .int 6)]) (st' := [.int 9]) rfl ?_
  refine mi_newa okX9_toldOfSector (mc := 0) (ms := 0) (t := 0) (N := 9) (z := .inl (fun _ => 0)) rfl rfl ac_int (by decide) (by decide) (by decide) (fun _ => rfl) (fun _ => rfl) ?_
  change mi_WX _ pP X kX9_toldOfSector 3 0 0 87 [(6, .int (((1000 * (((nI k) / 60) - ((nI k) / 60) / 3 * 3)) + (10 * (((nI k) / 5) - ((nI k) / 5) / 12 * 12))) + ((nI k) - (nI k) / 5 * 5))), (5, .ref h.1), (4, .int 0), (3, .null), (0, .ref M), (1, .int (nI k)), (2, .int 6)] [.ref (h.1 + 1)] (mi_psh (mi_psh h (.inl (0, 5, .inl (va_up (va_up (va_up (va_up (va_up (fun _ => 0) 0 1) 1 0) 2 0) 3 0) 4 0)))) (.inl (0, 9, .inl (fun _ => 0)))) _
  refine mi_blk okX9_toldOfSector 3 (pc' := 90) (lv' := [(6, .int (((1000 * (((nI k) / 60) - ((nI k) / 60) / 3 * 3)) + (10 * (((nI k) / 5) - ((nI k) / 5) / 12 * 12))) + ((nI k) - (nI k) / 5 * 5))), (5, .ref h.1), (4, .int 0), (3, .null), (0, .ref M), (1, .int (nI k)), (2, .int 6)]) (st' := [.ref M, .int 0, .ref (h.1 + 1), .ref (h.1 + 1)]) rfl ?_
  refine mi_getf okX9_toldOfSector rfl fg_RX9_25 (show 6 ≤ _ by have := hw.1; omega) (Nat.lt_succ_of_lt (Nat.lt_succ_of_lt (show _ < h.1 by have := hw.1; omega))) ((mi_psh_lt (Nat.lt_succ_of_lt (show _ < h.1 by have := hw.1; omega))).trans ((mi_psh_lt (show _ < h.1 by have := hw.1; omega)).trans hc)) (v := .ref (M + 4)) rfl ?_
  refine mi_blk okX9_toldOfSector 1 (pc' := 94) (lv' := [(6, .int (((1000 * (((nI k) / 60) - ((nI k) / 60) / 3 * 3)) + (10 * (((nI k) / 5) - ((nI k) / 5) / 12 * 12))) + ((nI k) - (nI k) / 5 * 5))), (5, .ref h.1), (4, .int 0), (3, .null), (0, .ref M), (1, .int (nI k)), (2, .int 6)]) (st' := [.int (nI k), .ref (M + 4), .int 0, .ref (h.1 + 1), .ref (h.1 + 1)]) rfl ?_
  refine mo_iao okX9_toldOfSector (k := k) rfl ((hw.psh _).psh _) hk ?_
  refine mo_ist okX9_toldOfSector (j := 0) rfl (by have := hw.1; omega) (Nat.lt_succ_self _) mi_psh_self rfl (by decide) (by decide) ?_
  rw [mi_set_psh]
  refine mi_blk okX9_toldOfSector 3 (pc' := 99) (lv' := [(6, .int (((1000 * (((nI k) / 60) - ((nI k) / 60) / 3 * 3)) + (10 * (((nI k) / 5) - ((nI k) / 5) / 12 * 12))) + ((nI k) - (nI k) / 5 * 5))), (5, .ref h.1), (4, .int 0), (3, .null), (0, .ref M), (1, .int (nI k)), (2, .int 6)]) (st' := [.null, .int 1, .ref (h.1 + 1), .ref (h.1 + 1)]) rfl ?_
  refine mi_ifnull_n okX9_toldOfSector rfl rfl ?_
  refine mi_blk okX9_toldOfSector 1 (pc' := 107) (lv' := [(6, .int (((1000 * (((nI k) / 60) - ((nI k) / 60) / 3 * 3)) + (10 * (((nI k) / 5) - ((nI k) / 5) / 12 * 12))) + ((nI k) - (nI k) / 5 * 5))), (5, .ref h.1), (4, .int 0), (3, .null), (0, .ref M), (1, .int (nI k)), (2, .int 6)]) (st' := [.int 0, .int 1, .ref (h.1 + 1), .ref (h.1 + 1)]) rfl ?_
  refine mi_callS okX9_toldOfSector (mc := 0) (ms := 0) (mc' := 0) (ms' := 0) (As := [.int 0]) (st := [.int 1, .ref (h.1 + 1), .ref (h.1 + 1)]) rfl cs_RX9_217 rfl (by decide) (Nat.le_of_ble_eq_true rfl) m_one_0 (fun r h1 q => ?_)
  obtain ⟨rfl, e9⟩ := q; have e9 := e9.symm; subst e9
  change mi_WX _ pP X kX9_toldOfSector 3 0 0 110 [(6, .int (((1000 * (((nI k) / 60) - ((nI k) / 60) / 3 * 3)) + (10 * (((nI k) / 5) - ((nI k) / 5) / 12 * 12))) + ((nI k) - (nI k) / 5 * 5))), (5, .ref h.1), (4, .int 0), (3, .null), (0, .ref M), (1, .int (nI k)), (2, .int 6)] [.int 0, .int 1, .ref (h.1 + 1), .ref (h.1 + 1)] (mi_psh (mi_psh h (.inl (0, 5, .inl (va_up (va_up (va_up (va_up (va_up (fun _ => 0) 0 1) 1 0) 2 0) 3 0) 4 0)))) (.inl (0, 9, .inl (va_up (fun _ => 0) 0 (-1))))) _
  refine mo_ist okX9_toldOfSector (j := 1) rfl (by have := hw.1; omega) (Nat.lt_succ_self _) mi_psh_self rfl (by decide) (by decide) ?_
  rw [mi_set_psh]
  refine mi_blk okX9_toldOfSector 3 (pc' := 115) (lv' := [(6, .int (((1000 * (((nI k) / 60) - ((nI k) / 60) / 3 * 3)) + (10 * (((nI k) / 5) - ((nI k) / 5) / 12 * 12))) + ((nI k) - (nI k) / 5 * 5))), (5, .ref h.1), (4, .int 0), (3, .null), (0, .ref M), (1, .int (nI k)), (2, .int 6)]) (st' := [.int 0, .int 2, .ref (h.1 + 1), .ref (h.1 + 1)]) rfl ?_
  refine mo_ist okX9_toldOfSector (j := 2) rfl (by have := hw.1; omega) (Nat.lt_succ_self _) mi_psh_self rfl (by decide) (by decide) ?_
  rw [mi_set_psh]
  refine mi_blk okX9_toldOfSector 4 (pc' := 120) (lv' := [(6, .int (((1000 * (((nI k) / 60) - ((nI k) / 60) / 3 * 3)) + (10 * (((nI k) / 5) - ((nI k) / 5) / 12 * 12))) + ((nI k) - (nI k) / 5 * 5))), (5, .ref h.1), (4, .int 0), (3, .null), (0, .ref M), (1, .int (nI k)), (2, .int 6)]) (st' := [.int (nI k), .ref M, .int 3, .ref (h.1 + 1), .ref (h.1 + 1)]) rfl ?_
  refine mi_callV okX9_toldOfSector (mc := 0) (ms := 0) (mc' := 0) (ms' := 0) (b := M) (As := [.int (nI k)]) (st := [.int 3, .ref (h.1 + 1), .ref (h.1 + 1)]) rfl cv_RX9_104 rfl (by decide) (show 6 ≤ _ by have := hw.1; omega) (Nat.lt_succ_of_lt (Nat.lt_succ_of_lt (show _ < h.1 by have := hw.1; omega))) ((mi_psh_lt (Nat.lt_succ_of_lt (show _ < h.1 by have := hw.1; omega))).trans ((mi_psh_lt (show _ < h.1 by have := hw.1; omega)).trans hc)) rfl (Nat.le_of_ble_eq_true rfl) (m_worth ((hw.psh _).psh _) ((mi_psh_lt (Nat.lt_succ_of_lt (show _ < h.1 by have := hw.1; omega))).trans ((mi_psh_lt (show _ < h.1 by have := hw.1; omega)).trans hc)) hk) (fun r h1 q => ?_)
  obtain ⟨rfl, e9⟩ := q; have e9 := e9.symm; subst e9
  change mi_WX _ pP X kX9_toldOfSector 3 0 0 123 [(6, .int (((1000 * (((nI k) / 60) - ((nI k) / 60) / 3 * 3)) + (10 * (((nI k) / 5) - ((nI k) / 5) / 12 * 12))) + ((nI k) - (nI k) / 5 * 5))), (5, .ref h.1), (4, .int 0), (3, .null), (0, .ref M), (1, .int (nI k)), (2, .int 6)] [.int 2, .int 3, .ref (h.1 + 1), .ref (h.1 + 1)] (mi_psh (mi_psh h (.inl (0, 5, .inl (va_up (va_up (va_up (va_up (va_up (fun _ => 0) 0 1) 1 0) 2 0) 3 0) 4 0)))) (.inl (0, 9, .inl (va_up (va_up (va_up (fun _ => 0) 0 (-1)) 1 0) 2 0)))) _
  refine mo_ist okX9_toldOfSector (j := 3) rfl (by have := hw.1; omega) (Nat.lt_succ_self _) mi_psh_self rfl (by decide) (by decide) ?_
  rw [mi_set_psh]
  refine mi_blk okX9_toldOfSector 4 (pc' := 129) (lv' := [(6, .int (((1000 * (((nI k) / 60) - ((nI k) / 60) / 3 * 3)) + (10 * (((nI k) / 5) - ((nI k) / 5) / 12 * 12))) + ((nI k) - (nI k) / 5 * 5))), (5, .ref h.1), (4, .int 0), (3, .null), (0, .ref M), (1, .int (nI k)), (2, .int 6)]) (st' := [.int 2, .ref h.1, .int 4, .ref (h.1 + 1), .ref (h.1 + 1)]) rfl ?_
  refine mo_ild okX9_toldOfSector (j := 2) (v := 0) rfl (show 6 ≤ h.1 by have := hw.1; omega) (Nat.lt_succ_of_lt (Nat.lt_succ_self _)) ((mi_psh_lt (Nat.lt_succ_self _)).trans mi_psh_self) rfl (by decide) (by decide) rfl ?_
  refine mo_ist okX9_toldOfSector (j := 4) rfl (by have := hw.1; omega) (Nat.lt_succ_self _) mi_psh_self rfl (by decide) (by decide) ?_
  rw [mi_set_psh]
  refine mi_blk okX9_toldOfSector 4 (pc' := 136) (lv' := [(6, .int (((1000 * (((nI k) / 60) - ((nI k) / 60) / 3 * 3)) + (10 * (((nI k) / 5) - ((nI k) / 5) / 12 * 12))) + ((nI k) - (nI k) / 5 * 5))), (5, .ref h.1), (4, .int 0), (3, .null), (0, .ref M), (1, .int (nI k)), (2, .int 6)]) (st' := [.int 1, .ref h.1, .int 5, .ref (h.1 + 1), .ref (h.1 + 1)]) rfl ?_
  refine mo_ild okX9_toldOfSector (j := 1) (v := 0) rfl (show 6 ≤ h.1 by have := hw.1; omega) (Nat.lt_succ_of_lt (Nat.lt_succ_self _)) ((mi_psh_lt (Nat.lt_succ_self _)).trans mi_psh_self) rfl (by decide) (by decide) rfl ?_
  refine mo_ist okX9_toldOfSector (j := 5) rfl (by have := hw.1; omega) (Nat.lt_succ_self _) mi_psh_self rfl (by decide) (by decide) ?_
  rw [mi_set_psh]
  refine mi_blk okX9_toldOfSector 4 (pc' := 144) (lv' := [(6, .int (((1000 * (((nI k) / 60) - ((nI k) / 60) / 3 * 3)) + (10 * (((nI k) / 5) - ((nI k) / 5) / 12 * 12))) + ((nI k) - (nI k) / 5 * 5))), (5, .ref h.1), (4, .int 0), (3, .null), (0, .ref M), (1, .int (nI k)), (2, .int 6)]) (st' := [.int 3, .ref h.1, .int 6, .ref (h.1 + 1), .ref (h.1 + 1)]) rfl ?_
  refine mo_ild okX9_toldOfSector (j := 3) (v := 0) rfl (show 6 ≤ h.1 by have := hw.1; omega) (Nat.lt_succ_of_lt (Nat.lt_succ_self _)) ((mi_psh_lt (Nat.lt_succ_self _)).trans mi_psh_self) rfl (by decide) (by decide) rfl ?_
  refine mo_ist okX9_toldOfSector (j := 6) rfl (by have := hw.1; omega) (Nat.lt_succ_self _) mi_psh_self rfl (by decide) (by decide) ?_
  rw [mi_set_psh]
  refine mi_blk okX9_toldOfSector 3 (pc' := 150) (lv' := [(6, .int (((1000 * (((nI k) / 60) - ((nI k) / 60) / 3 * 3)) + (10 * (((nI k) / 5) - ((nI k) / 5) / 12 * 12))) + ((nI k) - (nI k) / 5 * 5))), (5, .ref h.1), (4, .int 0), (3, .null), (0, .ref M), (1, .int (nI k)), (2, .int 6)]) (st' := [.int (nI k), .int 7, .ref (h.1 + 1), .ref (h.1 + 1)]) rfl ?_
  refine mi_callS okX9_toldOfSector (mc := 0) (ms := 0) (mc' := 0) (ms' := 0) (As := [.int (nI k)]) (st := [.int 7, .ref (h.1 + 1), .ref (h.1 + 1)]) rfl cs_RX9_171 rfl (by decide) (Nat.le_of_ble_eq_true rfl) (m_turnOf hk) (fun r h1 q => ?_)
  obtain ⟨rfl, e9⟩ := q; have e9 := e9.symm; subst e9
  change mi_WX _ pP X kX9_toldOfSector 3 0 0 153 [(6, .int (((1000 * (((nI k) / 60) - ((nI k) / 60) / 3 * 3)) + (10 * (((nI k) / 5) - ((nI k) / 5) / 12 * 12))) + ((nI k) - (nI k) / 5 * 5))), (5, .ref h.1), (4, .int 0), (3, .null), (0, .ref M), (1, .int (nI k)), (2, .int 6)] [.int (sp_turn (nI k)), .int 7, .ref (h.1 + 1), .ref (h.1 + 1)] (mi_psh (mi_psh h (.inl (0, 5, .inl (va_up (va_up (va_up (va_up (va_up (fun _ => 0) 0 1) 1 0) 2 0) 3 0) 4 0)))) (.inl (0, 9, .inl (va_up (va_up (va_up (va_up (va_up (va_up (va_up (fun _ => 0) 0 (-1)) 1 0) 2 0) 3 2) 4 0) 5 0) 6 0)))) _
  refine mo_ist okX9_toldOfSector (j := 7) rfl (by have := hw.1; omega) (Nat.lt_succ_self _) mi_psh_self rfl (by decide) (by decide) ?_
  rw [mi_set_psh]
  refine mi_blk okX9_toldOfSector 3 (pc' := 159) (lv' := [(6, .int (((1000 * (((nI k) / 60) - ((nI k) / 60) / 3 * 3)) + (10 * (((nI k) / 5) - ((nI k) / 5) / 12 * 12))) + ((nI k) - (nI k) / 5 * 5))), (5, .ref h.1), (4, .int 0), (3, .null), (0, .ref M), (1, .int (nI k)), (2, .int 6)]) (st' := [.int (((1000 * (((nI k) / 60) - ((nI k) / 60) / 3 * 3)) + (10 * (((nI k) / 5) - ((nI k) / 5) / 12 * 12))) + ((nI k) - (nI k) / 5 * 5)), .int 8, .ref (h.1 + 1), .ref (h.1 + 1)]) rfl ?_
  refine mo_ist okX9_toldOfSector (j := 8) rfl (by have := hw.1; omega) (Nat.lt_succ_self _) mi_psh_self rfl (by decide) (by decide) ?_
  rw [mi_set_psh]
  refine mi_blk okX9_toldOfSector 3 (pc' := 165) (lv' := [(7, .ref (h.1 + 1)), (6, .int (((1000 * (((nI k) / 60) - ((nI k) / 60) / 3 * 3)) + (10 * (((nI k) / 5) - ((nI k) / 5) / 12 * 12))) + ((nI k) - (nI k) / 5 * 5))), (5, .ref h.1), (4, .int 0), (3, .null), (0, .ref M), (1, .int (nI k)), (2, .int 6)]) (st' := [.int 6, .ref (h.1 + 1)]) rfl ?_
  refine mo_ild okX9_toldOfSector (j := 6) (v := 0) rfl (by have := hw.1; omega) (Nat.lt_succ_self _) mi_psh_self rfl (by decide) (by decide) rfl ?_
  exact mi_ret_i okX9_toldOfSector rfl rfl rfl ⟨rfl, (tp.rf.psh _).psh _⟩
set_option maxHeartbeats 4000000 in
set_option maxRecDepth 100000 in
theorem m_toldOfSector_7 {X : mi_X} {h : mi_H} {M : Nat} (hw : mo_W M h) {th : Int32} {u : mo_U} (hc : h.2 M = mo_c M th u) {k : Nat} (hk : k < 240) : mi_S pP X kX9_toldOfSector 3 [.ref M, .int (nI k), .int 7] h 2 14 (fun r h1 => r = some (.int (sp_turn (nI k))) ∧ tp h h1) := by
  refine enX9_toldOfSector (Nat.le_of_ble_eq_true rfl) ?_
  refine mi_blk okX9_toldOfSector 1 (pc' := 1) (lv' := [(0, .ref M), (1, .int (nI k)), (2, .int 7)]) (st' := [.ref M]) rfl ?_
  refine mi_getf okX9_toldOfSector rfl fg_RX9_11 (show 6 ≤ _ by have := hw.1; omega) (show _ < h.1 by have := hw.1; omega) hc (v := .ref (M + 1)) rfl ?_
  refine mi_blk okX9_toldOfSector 1 (pc' := 5) (lv' := [(0, .ref M), (1, .int (nI k)), (2, .int 7)]) (st' := [.int (nI k), .ref (M + 1)]) rfl ?_
  refine mo_aab okX9_toldOfSector (k := k) rfl hw hk ?_
  refine mi_blk okX9_toldOfSector 7 (pc' := 17) (lv' := [(5, .int 0), (4, .int 0), (3, .null), (0, .ref M), (1, .int (nI k)), (2, .int 7)]) (st' := [.int 16, .int 0]) rfl ?_
  refine mi_ic_ge okX9_toldOfSector rfl rfl (fun c_17 => absurd c_17 (by decide)) (fun c_17 => ?_)
  refine mi_blk okX9_toldOfSector 1 (pc' := 21) (lv' := [(5, .int 0), (4, .int 0), (3, .null), (0, .ref M), (1, .int (nI k)), (2, .int 7)]) (st' := [.null]) rfl ?_
  refine mi_ifnull_n okX9_toldOfSector rfl rfl ?_
  refine mi_blk okX9_toldOfSector 1 (pc' := 52) (lv' := [(5, .int 0), (4, .int 0), (3, .null), (0, .ref M), (1, .int (nI k)), (2, .int 7)]) (st' := [.null]) rfl ?_
  refine mi_callS okX9_toldOfSector (mc := 1) (ms := 9) (mc' := 1) (ms' := 5) (As := [.null]) (st := []) rfl cs_RX9_221 rfl (by decide) (Nat.le_of_ble_eq_true rfl) (m_marks (show 6 ≤ h.1 by have := hw.1; omega)) (fun r h1 q => ?_)
  obtain ⟨rfl, e9⟩ := q; subst e9
  change mi_WX _ pP X kX9_toldOfSector 3 1 9 55 [(5, .int 0), (4, .int 0), (3, .null), (0, .ref M), (1, .int (nI k)), (2, .int 7)] [.ref h.1] (mi_psh h (.inl (0, 5, .inl (va_up (va_up (va_up (va_up (va_up (fun _ => 0) 0 1) 1 0) 2 0) 3 0) 4 0)))) _
  refine mi_blk okX9_toldOfSector 4 (pc' := 63) (lv' := [(5, .ref h.1), (4, .int 0), (3, .null), (0, .ref M), (1, .int (nI k)), (2, .int 7)]) (st' := [.int 60, .int (nI k), .int 1000]) rfl ?_
  refine mi_idiv okX9_toldOfSector rfl (by decide) ?_
  refine mi_blk okX9_toldOfSector 1 (pc' := 65) (lv' := [(5, .ref h.1), (4, .int 0), (3, .null), (0, .ref M), (1, .int (nI k)), (2, .int 7)]) (st' := [.int 3, .int ((nI k) / 60), .int 1000]) rfl ?_
  refine mi_irem okX9_toldOfSector rfl (by decide) ?_
  refine mi_blk okX9_toldOfSector 4 (pc' := 71) (lv' := [(5, .ref h.1), (4, .int 0), (3, .null), (0, .ref M), (1, .int (nI k)), (2, .int 7)]) (st' := [.int 5, .int (nI k), .int 10, .int (1000 * (((nI k) / 60) - ((nI k) / 60) / 3 * 3))]) rfl ?_
  refine mi_idiv okX9_toldOfSector rfl (by decide) ?_
  refine mi_blk okX9_toldOfSector 1 (pc' := 74) (lv' := [(5, .ref h.1), (4, .int 0), (3, .null), (0, .ref M), (1, .int (nI k)), (2, .int 7)]) (st' := [.int 12, .int ((nI k) / 5), .int 10, .int (1000 * (((nI k) / 60) - ((nI k) / 60) / 3 * 3))]) rfl ?_
  refine mi_irem okX9_toldOfSector rfl (by decide) ?_
  refine mi_blk okX9_toldOfSector 4 (pc' := 79) (lv' := [(5, .ref h.1), (4, .int 0), (3, .null), (0, .ref M), (1, .int (nI k)), (2, .int 7)]) (st' := [.int 5, .int (nI k), .int ((1000 * (((nI k) / 60) - ((nI k) / 60) / 3 * 3)) + (10 * (((nI k) / 5) - ((nI k) / 5) / 12 * 12)))]) rfl ?_
  refine mi_irem okX9_toldOfSector rfl (by decide) ?_
  refine mi_blk okX9_toldOfSector 3 (pc' := 85) (lv' := [(6, .int (((1000 * (((nI k) / 60) - ((nI k) / 60) / 3 * 3)) + (10 * (((nI k) / 5) - ((nI k) / 5) / 12 * 12))) + ((nI k) - (nI k) / 5 * 5))), (5, .ref h.1), (4, .int 0), (3, .null), (0, .ref M), (1, .int (nI k)), (2, .int 7)]) (st' := [.int 9]) rfl ?_
  refine mi_newa okX9_toldOfSector (mc := 0) (ms := 0) (t := 0) (N := 9) (z := .inl (fun _ => 0)) rfl rfl ac_int (by decide) (by decide) (by decide) (fun _ => rfl) (fun _ => rfl) ?_
  change mi_WX _ pP X kX9_toldOfSector 3 0 0 87 [(6, .int (((1000 * (((nI k) / 60) - ((nI k) / 60) / 3 * 3)) + (10 * (((nI k) / 5) - ((nI k) / 5) / 12 * 12))) + ((nI k) - (nI k) / 5 * 5))), (5, .ref h.1), (4, .int 0), (3, .null), (0, .ref M), (1, .int (nI k)), (2, .int 7)] [.ref (h.1 + 1)] (mi_psh (mi_psh h (.inl (0, 5, .inl (va_up (va_up (va_up (va_up (va_up (fun _ => 0) 0 1) 1 0) 2 0) 3 0) 4 0)))) (.inl (0, 9, .inl (fun _ => 0)))) _
  refine mi_blk okX9_toldOfSector 3 (pc' := 90) (lv' := [(6, .int (((1000 * (((nI k) / 60) - ((nI k) / 60) / 3 * 3)) + (10 * (((nI k) / 5) - ((nI k) / 5) / 12 * 12))) + ((nI k) - (nI k) / 5 * 5))), (5, .ref h.1), (4, .int 0), (3, .null), (0, .ref M), (1, .int (nI k)), (2, .int 7)]) (st' := [.ref M, .int 0, .ref (h.1 + 1), .ref (h.1 + 1)]) rfl ?_
  refine mi_getf okX9_toldOfSector rfl fg_RX9_25 (show 6 ≤ _ by have := hw.1; omega) (Nat.lt_succ_of_lt (Nat.lt_succ_of_lt (show _ < h.1 by have := hw.1; omega))) ((mi_psh_lt (Nat.lt_succ_of_lt (show _ < h.1 by have := hw.1; omega))).trans ((mi_psh_lt (show _ < h.1 by have := hw.1; omega)).trans hc)) (v := .ref (M + 4)) rfl ?_
  refine mi_blk okX9_toldOfSector 1 (pc' := 94) (lv' := [(6, .int (((1000 * (((nI k) / 60) - ((nI k) / 60) / 3 * 3)) + (10 * (((nI k) / 5) - ((nI k) / 5) / 12 * 12))) + ((nI k) - (nI k) / 5 * 5))), (5, .ref h.1), (4, .int 0), (3, .null), (0, .ref M), (1, .int (nI k)), (2, .int 7)]) (st' := [.int (nI k), .ref (M + 4), .int 0, .ref (h.1 + 1), .ref (h.1 + 1)]) rfl ?_
  refine mo_iao okX9_toldOfSector (k := k) rfl ((hw.psh _).psh _) hk ?_
  refine mo_ist okX9_toldOfSector (j := 0) rfl (by have := hw.1; omega) (Nat.lt_succ_self _) mi_psh_self rfl (by decide) (by decide) ?_
  rw [mi_set_psh]
  refine mi_blk okX9_toldOfSector 3 (pc' := 99) (lv' := [(6, .int (((1000 * (((nI k) / 60) - ((nI k) / 60) / 3 * 3)) + (10 * (((nI k) / 5) - ((nI k) / 5) / 12 * 12))) + ((nI k) - (nI k) / 5 * 5))), (5, .ref h.1), (4, .int 0), (3, .null), (0, .ref M), (1, .int (nI k)), (2, .int 7)]) (st' := [.null, .int 1, .ref (h.1 + 1), .ref (h.1 + 1)]) rfl ?_
  refine mi_ifnull_n okX9_toldOfSector rfl rfl ?_
  refine mi_blk okX9_toldOfSector 1 (pc' := 107) (lv' := [(6, .int (((1000 * (((nI k) / 60) - ((nI k) / 60) / 3 * 3)) + (10 * (((nI k) / 5) - ((nI k) / 5) / 12 * 12))) + ((nI k) - (nI k) / 5 * 5))), (5, .ref h.1), (4, .int 0), (3, .null), (0, .ref M), (1, .int (nI k)), (2, .int 7)]) (st' := [.int 0, .int 1, .ref (h.1 + 1), .ref (h.1 + 1)]) rfl ?_
  refine mi_callS okX9_toldOfSector (mc := 0) (ms := 0) (mc' := 0) (ms' := 0) (As := [.int 0]) (st := [.int 1, .ref (h.1 + 1), .ref (h.1 + 1)]) rfl cs_RX9_217 rfl (by decide) (Nat.le_of_ble_eq_true rfl) m_one_0 (fun r h1 q => ?_)
  obtain ⟨rfl, e9⟩ := q; have e9 := e9.symm; subst e9
  change mi_WX _ pP X kX9_toldOfSector 3 0 0 110 [(6, .int (((1000 * (((nI k) / 60) - ((nI k) / 60) / 3 * 3)) + (10 * (((nI k) / 5) - ((nI k) / 5) / 12 * 12))) + ((nI k) - (nI k) / 5 * 5))), (5, .ref h.1), (4, .int 0), (3, .null), (0, .ref M), (1, .int (nI k)), (2, .int 7)] [.int 0, .int 1, .ref (h.1 + 1), .ref (h.1 + 1)] (mi_psh (mi_psh h (.inl (0, 5, .inl (va_up (va_up (va_up (va_up (va_up (fun _ => 0) 0 1) 1 0) 2 0) 3 0) 4 0)))) (.inl (0, 9, .inl (va_up (fun _ => 0) 0 (-1))))) _
  refine mo_ist okX9_toldOfSector (j := 1) rfl (by have := hw.1; omega) (Nat.lt_succ_self _) mi_psh_self rfl (by decide) (by decide) ?_
  rw [mi_set_psh]
  refine mi_blk okX9_toldOfSector 3 (pc' := 115) (lv' := [(6, .int (((1000 * (((nI k) / 60) - ((nI k) / 60) / 3 * 3)) + (10 * (((nI k) / 5) - ((nI k) / 5) / 12 * 12))) + ((nI k) - (nI k) / 5 * 5))), (5, .ref h.1), (4, .int 0), (3, .null), (0, .ref M), (1, .int (nI k)), (2, .int 7)]) (st' := [.int 0, .int 2, .ref (h.1 + 1), .ref (h.1 + 1)]) rfl ?_
  refine mo_ist okX9_toldOfSector (j := 2) rfl (by have := hw.1; omega) (Nat.lt_succ_self _) mi_psh_self rfl (by decide) (by decide) ?_
  rw [mi_set_psh]
  refine mi_blk okX9_toldOfSector 4 (pc' := 120) (lv' := [(6, .int (((1000 * (((nI k) / 60) - ((nI k) / 60) / 3 * 3)) + (10 * (((nI k) / 5) - ((nI k) / 5) / 12 * 12))) + ((nI k) - (nI k) / 5 * 5))), (5, .ref h.1), (4, .int 0), (3, .null), (0, .ref M), (1, .int (nI k)), (2, .int 7)]) (st' := [.int (nI k), .ref M, .int 3, .ref (h.1 + 1), .ref (h.1 + 1)]) rfl ?_
  refine mi_callV okX9_toldOfSector (mc := 0) (ms := 0) (mc' := 0) (ms' := 0) (b := M) (As := [.int (nI k)]) (st := [.int 3, .ref (h.1 + 1), .ref (h.1 + 1)]) rfl cv_RX9_104 rfl (by decide) (show 6 ≤ _ by have := hw.1; omega) (Nat.lt_succ_of_lt (Nat.lt_succ_of_lt (show _ < h.1 by have := hw.1; omega))) ((mi_psh_lt (Nat.lt_succ_of_lt (show _ < h.1 by have := hw.1; omega))).trans ((mi_psh_lt (show _ < h.1 by have := hw.1; omega)).trans hc)) rfl (Nat.le_of_ble_eq_true rfl) (m_worth ((hw.psh _).psh _) ((mi_psh_lt (Nat.lt_succ_of_lt (show _ < h.1 by have := hw.1; omega))).trans ((mi_psh_lt (show _ < h.1 by have := hw.1; omega)).trans hc)) hk) (fun r h1 q => ?_)
  obtain ⟨rfl, e9⟩ := q; have e9 := e9.symm; subst e9
  change mi_WX _ pP X kX9_toldOfSector 3 0 0 123 [(6, .int (((1000 * (((nI k) / 60) - ((nI k) / 60) / 3 * 3)) + (10 * (((nI k) / 5) - ((nI k) / 5) / 12 * 12))) + ((nI k) - (nI k) / 5 * 5))), (5, .ref h.1), (4, .int 0), (3, .null), (0, .ref M), (1, .int (nI k)), (2, .int 7)] [.int 2, .int 3, .ref (h.1 + 1), .ref (h.1 + 1)] (mi_psh (mi_psh h (.inl (0, 5, .inl (va_up (va_up (va_up (va_up (va_up (fun _ => 0) 0 1) 1 0) 2 0) 3 0) 4 0)))) (.inl (0, 9, .inl (va_up (va_up (va_up (fun _ => 0) 0 (-1)) 1 0) 2 0)))) _
  refine mo_ist okX9_toldOfSector (j := 3) rfl (by have := hw.1; omega) (Nat.lt_succ_self _) mi_psh_self rfl (by decide) (by decide) ?_
  rw [mi_set_psh]
  refine mi_blk okX9_toldOfSector 4 (pc' := 129) (lv' := [(6, .int (((1000 * (((nI k) / 60) - ((nI k) / 60) / 3 * 3)) + (10 * (((nI k) / 5) - ((nI k) / 5) / 12 * 12))) + ((nI k) - (nI k) / 5 * 5))), (5, .ref h.1), (4, .int 0), (3, .null), (0, .ref M), (1, .int (nI k)), (2, .int 7)]) (st' := [.int 2, .ref h.1, .int 4, .ref (h.1 + 1), .ref (h.1 + 1)]) rfl ?_
  refine mo_ild okX9_toldOfSector (j := 2) (v := 0) rfl (show 6 ≤ h.1 by have := hw.1; omega) (Nat.lt_succ_of_lt (Nat.lt_succ_self _)) ((mi_psh_lt (Nat.lt_succ_self _)).trans mi_psh_self) rfl (by decide) (by decide) rfl ?_
  refine mo_ist okX9_toldOfSector (j := 4) rfl (by have := hw.1; omega) (Nat.lt_succ_self _) mi_psh_self rfl (by decide) (by decide) ?_
  rw [mi_set_psh]
  refine mi_blk okX9_toldOfSector 4 (pc' := 136) (lv' := [(6, .int (((1000 * (((nI k) / 60) - ((nI k) / 60) / 3 * 3)) + (10 * (((nI k) / 5) - ((nI k) / 5) / 12 * 12))) + ((nI k) - (nI k) / 5 * 5))), (5, .ref h.1), (4, .int 0), (3, .null), (0, .ref M), (1, .int (nI k)), (2, .int 7)]) (st' := [.int 1, .ref h.1, .int 5, .ref (h.1 + 1), .ref (h.1 + 1)]) rfl ?_
  refine mo_ild okX9_toldOfSector (j := 1) (v := 0) rfl (show 6 ≤ h.1 by have := hw.1; omega) (Nat.lt_succ_of_lt (Nat.lt_succ_self _)) ((mi_psh_lt (Nat.lt_succ_self _)).trans mi_psh_self) rfl (by decide) (by decide) rfl ?_
  refine mo_ist okX9_toldOfSector (j := 5) rfl (by have := hw.1; omega) (Nat.lt_succ_self _) mi_psh_self rfl (by decide) (by decide) ?_
  rw [mi_set_psh]
  refine mi_blk okX9_toldOfSector 4 (pc' := 144) (lv' := [(6, .int (((1000 * (((nI k) / 60) - ((nI k) / 60) / 3 * 3)) + (10 * (((nI k) / 5) - ((nI k) / 5) / 12 * 12))) + ((nI k) - (nI k) / 5 * 5))), (5, .ref h.1), (4, .int 0), (3, .null), (0, .ref M), (1, .int (nI k)), (2, .int 7)]) (st' := [.int 3, .ref h.1, .int 6, .ref (h.1 + 1), .ref (h.1 + 1)]) rfl ?_
  refine mo_ild okX9_toldOfSector (j := 3) (v := 0) rfl (show 6 ≤ h.1 by have := hw.1; omega) (Nat.lt_succ_of_lt (Nat.lt_succ_self _)) ((mi_psh_lt (Nat.lt_succ_self _)).trans mi_psh_self) rfl (by decide) (by decide) rfl ?_
  refine mo_ist okX9_toldOfSector (j := 6) rfl (by have := hw.1; omega) (Nat.lt_succ_self _) mi_psh_self rfl (by decide) (by decide) ?_
  rw [mi_set_psh]
  refine mi_blk okX9_toldOfSector 3 (pc' := 150) (lv' := [(6, .int (((1000 * (((nI k) / 60) - ((nI k) / 60) / 3 * 3)) + (10 * (((nI k) / 5) - ((nI k) / 5) / 12 * 12))) + ((nI k) - (nI k) / 5 * 5))), (5, .ref h.1), (4, .int 0), (3, .null), (0, .ref M), (1, .int (nI k)), (2, .int 7)]) (st' := [.int (nI k), .int 7, .ref (h.1 + 1), .ref (h.1 + 1)]) rfl ?_
  refine mi_callS okX9_toldOfSector (mc := 0) (ms := 0) (mc' := 0) (ms' := 0) (As := [.int (nI k)]) (st := [.int 7, .ref (h.1 + 1), .ref (h.1 + 1)]) rfl cs_RX9_171 rfl (by decide) (Nat.le_of_ble_eq_true rfl) (m_turnOf hk) (fun r h1 q => ?_)
  obtain ⟨rfl, e9⟩ := q; have e9 := e9.symm; subst e9
  change mi_WX _ pP X kX9_toldOfSector 3 0 0 153 [(6, .int (((1000 * (((nI k) / 60) - ((nI k) / 60) / 3 * 3)) + (10 * (((nI k) / 5) - ((nI k) / 5) / 12 * 12))) + ((nI k) - (nI k) / 5 * 5))), (5, .ref h.1), (4, .int 0), (3, .null), (0, .ref M), (1, .int (nI k)), (2, .int 7)] [.int (sp_turn (nI k)), .int 7, .ref (h.1 + 1), .ref (h.1 + 1)] (mi_psh (mi_psh h (.inl (0, 5, .inl (va_up (va_up (va_up (va_up (va_up (fun _ => 0) 0 1) 1 0) 2 0) 3 0) 4 0)))) (.inl (0, 9, .inl (va_up (va_up (va_up (va_up (va_up (va_up (va_up (fun _ => 0) 0 (-1)) 1 0) 2 0) 3 2) 4 0) 5 0) 6 0)))) _
  refine mo_ist okX9_toldOfSector (j := 7) rfl (by have := hw.1; omega) (Nat.lt_succ_self _) mi_psh_self rfl (by decide) (by decide) ?_
  rw [mi_set_psh]
  refine mi_blk okX9_toldOfSector 3 (pc' := 159) (lv' := [(6, .int (((1000 * (((nI k) / 60) - ((nI k) / 60) / 3 * 3)) + (10 * (((nI k) / 5) - ((nI k) / 5) / 12 * 12))) + ((nI k) - (nI k) / 5 * 5))), (5, .ref h.1), (4, .int 0), (3, .null), (0, .ref M), (1, .int (nI k)), (2, .int 7)]) (st' := [.int (((1000 * (((nI k) / 60) - ((nI k) / 60) / 3 * 3)) + (10 * (((nI k) / 5) - ((nI k) / 5) / 12 * 12))) + ((nI k) - (nI k) / 5 * 5)), .int 8, .ref (h.1 + 1), .ref (h.1 + 1)]) rfl ?_
  refine mo_ist okX9_toldOfSector (j := 8) rfl (by have := hw.1; omega) (Nat.lt_succ_self _) mi_psh_self rfl (by decide) (by decide) ?_
  rw [mi_set_psh]
  refine mi_blk okX9_toldOfSector 3 (pc' := 165) (lv' := [(7, .ref (h.1 + 1)), (6, .int (((1000 * (((nI k) / 60) - ((nI k) / 60) / 3 * 3)) + (10 * (((nI k) / 5) - ((nI k) / 5) / 12 * 12))) + ((nI k) - (nI k) / 5 * 5))), (5, .ref h.1), (4, .int 0), (3, .null), (0, .ref M), (1, .int (nI k)), (2, .int 7)]) (st' := [.int 7, .ref (h.1 + 1)]) rfl ?_
  refine mo_ild okX9_toldOfSector (j := 7) (v := (sp_turn (nI k))) rfl (by have := hw.1; omega) (Nat.lt_succ_self _) mi_psh_self rfl (by decide) (by decide) rfl ?_
  exact mi_ret_i okX9_toldOfSector rfl rfl rfl ⟨rfl, (tp.rf.psh _).psh _⟩
set_option maxHeartbeats 4000000 in
set_option maxRecDepth 100000 in
theorem m_toldOfSector_8 {X : mi_X} {h : mi_H} {M : Nat} (hw : mo_W M h) {th : Int32} {u : mo_U} (hc : h.2 M = mo_c M th u) {k : Nat} (hk : k < 240) : mi_S pP X kX9_toldOfSector 3 [.ref M, .int (nI k), .int 8] h 2 14 (fun r h1 => r = some (.int (sp_pos (nI k))) ∧ tp h h1) := by
  refine enX9_toldOfSector (Nat.le_of_ble_eq_true rfl) ?_
  refine mi_blk okX9_toldOfSector 1 (pc' := 1) (lv' := [(0, .ref M), (1, .int (nI k)), (2, .int 8)]) (st' := [.ref M]) rfl ?_
  refine mi_getf okX9_toldOfSector rfl fg_RX9_11 (show 6 ≤ _ by have := hw.1; omega) (show _ < h.1 by have := hw.1; omega) hc (v := .ref (M + 1)) rfl ?_
  refine mi_blk okX9_toldOfSector 1 (pc' := 5) (lv' := [(0, .ref M), (1, .int (nI k)), (2, .int 8)]) (st' := [.int (nI k), .ref (M + 1)]) rfl ?_
  refine mo_aab okX9_toldOfSector (k := k) rfl hw hk ?_
  refine mi_blk okX9_toldOfSector 7 (pc' := 17) (lv' := [(5, .int 0), (4, .int 0), (3, .null), (0, .ref M), (1, .int (nI k)), (2, .int 8)]) (st' := [.int 16, .int 0]) rfl ?_
  refine mi_ic_ge okX9_toldOfSector rfl rfl (fun c_17 => absurd c_17 (by decide)) (fun c_17 => ?_)
  refine mi_blk okX9_toldOfSector 1 (pc' := 21) (lv' := [(5, .int 0), (4, .int 0), (3, .null), (0, .ref M), (1, .int (nI k)), (2, .int 8)]) (st' := [.null]) rfl ?_
  refine mi_ifnull_n okX9_toldOfSector rfl rfl ?_
  refine mi_blk okX9_toldOfSector 1 (pc' := 52) (lv' := [(5, .int 0), (4, .int 0), (3, .null), (0, .ref M), (1, .int (nI k)), (2, .int 8)]) (st' := [.null]) rfl ?_
  refine mi_callS okX9_toldOfSector (mc := 1) (ms := 9) (mc' := 1) (ms' := 5) (As := [.null]) (st := []) rfl cs_RX9_221 rfl (by decide) (Nat.le_of_ble_eq_true rfl) (m_marks (show 6 ≤ h.1 by have := hw.1; omega)) (fun r h1 q => ?_)
  obtain ⟨rfl, e9⟩ := q; subst e9
  change mi_WX _ pP X kX9_toldOfSector 3 1 9 55 [(5, .int 0), (4, .int 0), (3, .null), (0, .ref M), (1, .int (nI k)), (2, .int 8)] [.ref h.1] (mi_psh h (.inl (0, 5, .inl (va_up (va_up (va_up (va_up (va_up (fun _ => 0) 0 1) 1 0) 2 0) 3 0) 4 0)))) _
  refine mi_blk okX9_toldOfSector 4 (pc' := 63) (lv' := [(5, .ref h.1), (4, .int 0), (3, .null), (0, .ref M), (1, .int (nI k)), (2, .int 8)]) (st' := [.int 60, .int (nI k), .int 1000]) rfl ?_
  refine mi_idiv okX9_toldOfSector rfl (by decide) ?_
  refine mi_blk okX9_toldOfSector 1 (pc' := 65) (lv' := [(5, .ref h.1), (4, .int 0), (3, .null), (0, .ref M), (1, .int (nI k)), (2, .int 8)]) (st' := [.int 3, .int ((nI k) / 60), .int 1000]) rfl ?_
  refine mi_irem okX9_toldOfSector rfl (by decide) ?_
  refine mi_blk okX9_toldOfSector 4 (pc' := 71) (lv' := [(5, .ref h.1), (4, .int 0), (3, .null), (0, .ref M), (1, .int (nI k)), (2, .int 8)]) (st' := [.int 5, .int (nI k), .int 10, .int (1000 * (((nI k) / 60) - ((nI k) / 60) / 3 * 3))]) rfl ?_
  refine mi_idiv okX9_toldOfSector rfl (by decide) ?_
  refine mi_blk okX9_toldOfSector 1 (pc' := 74) (lv' := [(5, .ref h.1), (4, .int 0), (3, .null), (0, .ref M), (1, .int (nI k)), (2, .int 8)]) (st' := [.int 12, .int ((nI k) / 5), .int 10, .int (1000 * (((nI k) / 60) - ((nI k) / 60) / 3 * 3))]) rfl ?_
  refine mi_irem okX9_toldOfSector rfl (by decide) ?_
  refine mi_blk okX9_toldOfSector 4 (pc' := 79) (lv' := [(5, .ref h.1), (4, .int 0), (3, .null), (0, .ref M), (1, .int (nI k)), (2, .int 8)]) (st' := [.int 5, .int (nI k), .int ((1000 * (((nI k) / 60) - ((nI k) / 60) / 3 * 3)) + (10 * (((nI k) / 5) - ((nI k) / 5) / 12 * 12)))]) rfl ?_
  refine mi_irem okX9_toldOfSector rfl (by decide) ?_
  refine mi_blk okX9_toldOfSector 3 (pc' := 85) (lv' := [(6, .int (((1000 * (((nI k) / 60) - ((nI k) / 60) / 3 * 3)) + (10 * (((nI k) / 5) - ((nI k) / 5) / 12 * 12))) + ((nI k) - (nI k) / 5 * 5))), (5, .ref h.1), (4, .int 0), (3, .null), (0, .ref M), (1, .int (nI k)), (2, .int 8)]) (st' := [.int 9]) rfl ?_
  refine mi_newa okX9_toldOfSector (mc := 0) (ms := 0) (t := 0) (N := 9) (z := .inl (fun _ => 0)) rfl rfl ac_int (by decide) (by decide) (by decide) (fun _ => rfl) (fun _ => rfl) ?_
  change mi_WX _ pP X kX9_toldOfSector 3 0 0 87 [(6, .int (((1000 * (((nI k) / 60) - ((nI k) / 60) / 3 * 3)) + (10 * (((nI k) / 5) - ((nI k) / 5) / 12 * 12))) + ((nI k) - (nI k) / 5 * 5))), (5, .ref h.1), (4, .int 0), (3, .null), (0, .ref M), (1, .int (nI k)), (2, .int 8)] [.ref (h.1 + 1)] (mi_psh (mi_psh h (.inl (0, 5, .inl (va_up (va_up (va_up (va_up (va_up (fun _ => 0) 0 1) 1 0) 2 0) 3 0) 4 0)))) (.inl (0, 9, .inl (fun _ => 0)))) _
  refine mi_blk okX9_toldOfSector 3 (pc' := 90) (lv' := [(6, .int (((1000 * (((nI k) / 60) - ((nI k) / 60) / 3 * 3)) + (10 * (((nI k) / 5) - ((nI k) / 5) / 12 * 12))) + ((nI k) - (nI k) / 5 * 5))), (5, .ref h.1), (4, .int 0), (3, .null), (0, .ref M), (1, .int (nI k)), (2, .int 8)]) (st' := [.ref M, .int 0, .ref (h.1 + 1), .ref (h.1 + 1)]) rfl ?_
  refine mi_getf okX9_toldOfSector rfl fg_RX9_25 (show 6 ≤ _ by have := hw.1; omega) (Nat.lt_succ_of_lt (Nat.lt_succ_of_lt (show _ < h.1 by have := hw.1; omega))) ((mi_psh_lt (Nat.lt_succ_of_lt (show _ < h.1 by have := hw.1; omega))).trans ((mi_psh_lt (show _ < h.1 by have := hw.1; omega)).trans hc)) (v := .ref (M + 4)) rfl ?_
  refine mi_blk okX9_toldOfSector 1 (pc' := 94) (lv' := [(6, .int (((1000 * (((nI k) / 60) - ((nI k) / 60) / 3 * 3)) + (10 * (((nI k) / 5) - ((nI k) / 5) / 12 * 12))) + ((nI k) - (nI k) / 5 * 5))), (5, .ref h.1), (4, .int 0), (3, .null), (0, .ref M), (1, .int (nI k)), (2, .int 8)]) (st' := [.int (nI k), .ref (M + 4), .int 0, .ref (h.1 + 1), .ref (h.1 + 1)]) rfl ?_
  refine mo_iao okX9_toldOfSector (k := k) rfl ((hw.psh _).psh _) hk ?_
  refine mo_ist okX9_toldOfSector (j := 0) rfl (by have := hw.1; omega) (Nat.lt_succ_self _) mi_psh_self rfl (by decide) (by decide) ?_
  rw [mi_set_psh]
  refine mi_blk okX9_toldOfSector 3 (pc' := 99) (lv' := [(6, .int (((1000 * (((nI k) / 60) - ((nI k) / 60) / 3 * 3)) + (10 * (((nI k) / 5) - ((nI k) / 5) / 12 * 12))) + ((nI k) - (nI k) / 5 * 5))), (5, .ref h.1), (4, .int 0), (3, .null), (0, .ref M), (1, .int (nI k)), (2, .int 8)]) (st' := [.null, .int 1, .ref (h.1 + 1), .ref (h.1 + 1)]) rfl ?_
  refine mi_ifnull_n okX9_toldOfSector rfl rfl ?_
  refine mi_blk okX9_toldOfSector 1 (pc' := 107) (lv' := [(6, .int (((1000 * (((nI k) / 60) - ((nI k) / 60) / 3 * 3)) + (10 * (((nI k) / 5) - ((nI k) / 5) / 12 * 12))) + ((nI k) - (nI k) / 5 * 5))), (5, .ref h.1), (4, .int 0), (3, .null), (0, .ref M), (1, .int (nI k)), (2, .int 8)]) (st' := [.int 0, .int 1, .ref (h.1 + 1), .ref (h.1 + 1)]) rfl ?_
  refine mi_callS okX9_toldOfSector (mc := 0) (ms := 0) (mc' := 0) (ms' := 0) (As := [.int 0]) (st := [.int 1, .ref (h.1 + 1), .ref (h.1 + 1)]) rfl cs_RX9_217 rfl (by decide) (Nat.le_of_ble_eq_true rfl) m_one_0 (fun r h1 q => ?_)
  obtain ⟨rfl, e9⟩ := q; have e9 := e9.symm; subst e9
  change mi_WX _ pP X kX9_toldOfSector 3 0 0 110 [(6, .int (((1000 * (((nI k) / 60) - ((nI k) / 60) / 3 * 3)) + (10 * (((nI k) / 5) - ((nI k) / 5) / 12 * 12))) + ((nI k) - (nI k) / 5 * 5))), (5, .ref h.1), (4, .int 0), (3, .null), (0, .ref M), (1, .int (nI k)), (2, .int 8)] [.int 0, .int 1, .ref (h.1 + 1), .ref (h.1 + 1)] (mi_psh (mi_psh h (.inl (0, 5, .inl (va_up (va_up (va_up (va_up (va_up (fun _ => 0) 0 1) 1 0) 2 0) 3 0) 4 0)))) (.inl (0, 9, .inl (va_up (fun _ => 0) 0 (-1))))) _
  refine mo_ist okX9_toldOfSector (j := 1) rfl (by have := hw.1; omega) (Nat.lt_succ_self _) mi_psh_self rfl (by decide) (by decide) ?_
  rw [mi_set_psh]
  refine mi_blk okX9_toldOfSector 3 (pc' := 115) (lv' := [(6, .int (((1000 * (((nI k) / 60) - ((nI k) / 60) / 3 * 3)) + (10 * (((nI k) / 5) - ((nI k) / 5) / 12 * 12))) + ((nI k) - (nI k) / 5 * 5))), (5, .ref h.1), (4, .int 0), (3, .null), (0, .ref M), (1, .int (nI k)), (2, .int 8)]) (st' := [.int 0, .int 2, .ref (h.1 + 1), .ref (h.1 + 1)]) rfl ?_
  refine mo_ist okX9_toldOfSector (j := 2) rfl (by have := hw.1; omega) (Nat.lt_succ_self _) mi_psh_self rfl (by decide) (by decide) ?_
  rw [mi_set_psh]
  refine mi_blk okX9_toldOfSector 4 (pc' := 120) (lv' := [(6, .int (((1000 * (((nI k) / 60) - ((nI k) / 60) / 3 * 3)) + (10 * (((nI k) / 5) - ((nI k) / 5) / 12 * 12))) + ((nI k) - (nI k) / 5 * 5))), (5, .ref h.1), (4, .int 0), (3, .null), (0, .ref M), (1, .int (nI k)), (2, .int 8)]) (st' := [.int (nI k), .ref M, .int 3, .ref (h.1 + 1), .ref (h.1 + 1)]) rfl ?_
  refine mi_callV okX9_toldOfSector (mc := 0) (ms := 0) (mc' := 0) (ms' := 0) (b := M) (As := [.int (nI k)]) (st := [.int 3, .ref (h.1 + 1), .ref (h.1 + 1)]) rfl cv_RX9_104 rfl (by decide) (show 6 ≤ _ by have := hw.1; omega) (Nat.lt_succ_of_lt (Nat.lt_succ_of_lt (show _ < h.1 by have := hw.1; omega))) ((mi_psh_lt (Nat.lt_succ_of_lt (show _ < h.1 by have := hw.1; omega))).trans ((mi_psh_lt (show _ < h.1 by have := hw.1; omega)).trans hc)) rfl (Nat.le_of_ble_eq_true rfl) (m_worth ((hw.psh _).psh _) ((mi_psh_lt (Nat.lt_succ_of_lt (show _ < h.1 by have := hw.1; omega))).trans ((mi_psh_lt (show _ < h.1 by have := hw.1; omega)).trans hc)) hk) (fun r h1 q => ?_)
  obtain ⟨rfl, e9⟩ := q; have e9 := e9.symm; subst e9
  change mi_WX _ pP X kX9_toldOfSector 3 0 0 123 [(6, .int (((1000 * (((nI k) / 60) - ((nI k) / 60) / 3 * 3)) + (10 * (((nI k) / 5) - ((nI k) / 5) / 12 * 12))) + ((nI k) - (nI k) / 5 * 5))), (5, .ref h.1), (4, .int 0), (3, .null), (0, .ref M), (1, .int (nI k)), (2, .int 8)] [.int 2, .int 3, .ref (h.1 + 1), .ref (h.1 + 1)] (mi_psh (mi_psh h (.inl (0, 5, .inl (va_up (va_up (va_up (va_up (va_up (fun _ => 0) 0 1) 1 0) 2 0) 3 0) 4 0)))) (.inl (0, 9, .inl (va_up (va_up (va_up (fun _ => 0) 0 (-1)) 1 0) 2 0)))) _
  refine mo_ist okX9_toldOfSector (j := 3) rfl (by have := hw.1; omega) (Nat.lt_succ_self _) mi_psh_self rfl (by decide) (by decide) ?_
  rw [mi_set_psh]
  refine mi_blk okX9_toldOfSector 4 (pc' := 129) (lv' := [(6, .int (((1000 * (((nI k) / 60) - ((nI k) / 60) / 3 * 3)) + (10 * (((nI k) / 5) - ((nI k) / 5) / 12 * 12))) + ((nI k) - (nI k) / 5 * 5))), (5, .ref h.1), (4, .int 0), (3, .null), (0, .ref M), (1, .int (nI k)), (2, .int 8)]) (st' := [.int 2, .ref h.1, .int 4, .ref (h.1 + 1), .ref (h.1 + 1)]) rfl ?_
  refine mo_ild okX9_toldOfSector (j := 2) (v := 0) rfl (show 6 ≤ h.1 by have := hw.1; omega) (Nat.lt_succ_of_lt (Nat.lt_succ_self _)) ((mi_psh_lt (Nat.lt_succ_self _)).trans mi_psh_self) rfl (by decide) (by decide) rfl ?_
  refine mo_ist okX9_toldOfSector (j := 4) rfl (by have := hw.1; omega) (Nat.lt_succ_self _) mi_psh_self rfl (by decide) (by decide) ?_
  rw [mi_set_psh]
  refine mi_blk okX9_toldOfSector 4 (pc' := 136) (lv' := [(6, .int (((1000 * (((nI k) / 60) - ((nI k) / 60) / 3 * 3)) + (10 * (((nI k) / 5) - ((nI k) / 5) / 12 * 12))) + ((nI k) - (nI k) / 5 * 5))), (5, .ref h.1), (4, .int 0), (3, .null), (0, .ref M), (1, .int (nI k)), (2, .int 8)]) (st' := [.int 1, .ref h.1, .int 5, .ref (h.1 + 1), .ref (h.1 + 1)]) rfl ?_
  refine mo_ild okX9_toldOfSector (j := 1) (v := 0) rfl (show 6 ≤ h.1 by have := hw.1; omega) (Nat.lt_succ_of_lt (Nat.lt_succ_self _)) ((mi_psh_lt (Nat.lt_succ_self _)).trans mi_psh_self) rfl (by decide) (by decide) rfl ?_
  refine mo_ist okX9_toldOfSector (j := 5) rfl (by have := hw.1; omega) (Nat.lt_succ_self _) mi_psh_self rfl (by decide) (by decide) ?_
  rw [mi_set_psh]
  refine mi_blk okX9_toldOfSector 4 (pc' := 144) (lv' := [(6, .int (((1000 * (((nI k) / 60) - ((nI k) / 60) / 3 * 3)) + (10 * (((nI k) / 5) - ((nI k) / 5) / 12 * 12))) + ((nI k) - (nI k) / 5 * 5))), (5, .ref h.1), (4, .int 0), (3, .null), (0, .ref M), (1, .int (nI k)), (2, .int 8)]) (st' := [.int 3, .ref h.1, .int 6, .ref (h.1 + 1), .ref (h.1 + 1)]) rfl ?_
  refine mo_ild okX9_toldOfSector (j := 3) (v := 0) rfl (show 6 ≤ h.1 by have := hw.1; omega) (Nat.lt_succ_of_lt (Nat.lt_succ_self _)) ((mi_psh_lt (Nat.lt_succ_self _)).trans mi_psh_self) rfl (by decide) (by decide) rfl ?_
  refine mo_ist okX9_toldOfSector (j := 6) rfl (by have := hw.1; omega) (Nat.lt_succ_self _) mi_psh_self rfl (by decide) (by decide) ?_
  rw [mi_set_psh]
  refine mi_blk okX9_toldOfSector 3 (pc' := 150) (lv' := [(6, .int (((1000 * (((nI k) / 60) - ((nI k) / 60) / 3 * 3)) + (10 * (((nI k) / 5) - ((nI k) / 5) / 12 * 12))) + ((nI k) - (nI k) / 5 * 5))), (5, .ref h.1), (4, .int 0), (3, .null), (0, .ref M), (1, .int (nI k)), (2, .int 8)]) (st' := [.int (nI k), .int 7, .ref (h.1 + 1), .ref (h.1 + 1)]) rfl ?_
  refine mi_callS okX9_toldOfSector (mc := 0) (ms := 0) (mc' := 0) (ms' := 0) (As := [.int (nI k)]) (st := [.int 7, .ref (h.1 + 1), .ref (h.1 + 1)]) rfl cs_RX9_171 rfl (by decide) (Nat.le_of_ble_eq_true rfl) (m_turnOf hk) (fun r h1 q => ?_)
  obtain ⟨rfl, e9⟩ := q; have e9 := e9.symm; subst e9
  change mi_WX _ pP X kX9_toldOfSector 3 0 0 153 [(6, .int (((1000 * (((nI k) / 60) - ((nI k) / 60) / 3 * 3)) + (10 * (((nI k) / 5) - ((nI k) / 5) / 12 * 12))) + ((nI k) - (nI k) / 5 * 5))), (5, .ref h.1), (4, .int 0), (3, .null), (0, .ref M), (1, .int (nI k)), (2, .int 8)] [.int (sp_turn (nI k)), .int 7, .ref (h.1 + 1), .ref (h.1 + 1)] (mi_psh (mi_psh h (.inl (0, 5, .inl (va_up (va_up (va_up (va_up (va_up (fun _ => 0) 0 1) 1 0) 2 0) 3 0) 4 0)))) (.inl (0, 9, .inl (va_up (va_up (va_up (va_up (va_up (va_up (va_up (fun _ => 0) 0 (-1)) 1 0) 2 0) 3 2) 4 0) 5 0) 6 0)))) _
  refine mo_ist okX9_toldOfSector (j := 7) rfl (by have := hw.1; omega) (Nat.lt_succ_self _) mi_psh_self rfl (by decide) (by decide) ?_
  rw [mi_set_psh]
  refine mi_blk okX9_toldOfSector 3 (pc' := 159) (lv' := [(6, .int (((1000 * (((nI k) / 60) - ((nI k) / 60) / 3 * 3)) + (10 * (((nI k) / 5) - ((nI k) / 5) / 12 * 12))) + ((nI k) - (nI k) / 5 * 5))), (5, .ref h.1), (4, .int 0), (3, .null), (0, .ref M), (1, .int (nI k)), (2, .int 8)]) (st' := [.int (((1000 * (((nI k) / 60) - ((nI k) / 60) / 3 * 3)) + (10 * (((nI k) / 5) - ((nI k) / 5) / 12 * 12))) + ((nI k) - (nI k) / 5 * 5)), .int 8, .ref (h.1 + 1), .ref (h.1 + 1)]) rfl ?_
  refine mo_ist okX9_toldOfSector (j := 8) rfl (by have := hw.1; omega) (Nat.lt_succ_self _) mi_psh_self rfl (by decide) (by decide) ?_
  rw [mi_set_psh]
  refine mi_blk okX9_toldOfSector 3 (pc' := 165) (lv' := [(7, .ref (h.1 + 1)), (6, .int (((1000 * (((nI k) / 60) - ((nI k) / 60) / 3 * 3)) + (10 * (((nI k) / 5) - ((nI k) / 5) / 12 * 12))) + ((nI k) - (nI k) / 5 * 5))), (5, .ref h.1), (4, .int 0), (3, .null), (0, .ref M), (1, .int (nI k)), (2, .int 8)]) (st' := [.int 8, .ref (h.1 + 1)]) rfl ?_
  refine mo_ild okX9_toldOfSector (j := 8) (v := ((1000 * (((nI k) / 60) - ((nI k) / 60) / 3 * 3)) + (10 * (((nI k) / 5) - ((nI k) / 5) / 12 * 12))) + ((nI k) - (nI k) / 5 * 5)) rfl (by have := hw.1; omega) (Nat.lt_succ_self _) mi_psh_self rfl (by decide) (by decide) rfl ?_
  exact mi_ret_i okX9_toldOfSector rfl rfl rfl ⟨rfl, (tp.rf.psh _).psh _⟩
set_option maxHeartbeats 4000000 in
set_option maxRecDepth 100000 in
theorem m_ofSector_0 {X : mi_X} {h : mi_H} {M : Nat} (hw : mo_W M h) (hc : h.2 M = mo_c M 0 mo_0) {k : Nat} (hk : k < 240) : mi_S pP X kX9_ofSector 4 [.ref M, .int (nI k), .int 0] h 2 14 (fun r h1 => r = some (.int (-1)) ∧ mp M h 0 h1) := by
  refine enX9_ofSector (Nat.le_of_ble_eq_true rfl) ?_
  refine mi_blk okX9_ofSector 2 (pc' := 2) (lv' := [(0, .ref M), (1, .int (nI k)), (2, .int 0)]) (st' := [.int (nI k), .ref M]) rfl ?_
  refine mi_callS okX9_ofSector (mc := 2) (ms := 14) (mc' := 0) (ms' := 0) (As := [.int (nI k)]) (st := [.ref M]) rfl cs_RX9_166 rfl (by decide) (Nat.le_of_ble_eq_true rfl) (m_isNoSector_0 hk) (fun r h1 q => ?_)
  obtain ⟨rfl, e9⟩ := q; have e9 := e9.symm; subst e9
  change mi_WX _ pP X kX9_ofSector 4 2 14 5 [(0, .ref M), (1, .int (nI k)), (2, .int 0)] [.int 0, .ref M] h _
  refine mi_blk okX9_ofSector 1 (pc' := 6) (lv' := [(0, .ref M), (1, .int (nI k)), (2, .int 0)]) (st' := [.int 1, .int 0, .ref M]) rfl ?_
  refine mi_callV okX9_ofSector (mc := 2) (ms := 14) (mc' := 0) (ms' := 0) (b := M) (As := [.int 0, .int 1]) (st := []) rfl cv_RX9_130 rfl (by decide) (show 6 ≤ _ by have := hw.1; omega) (show _ < h.1 by have := hw.1; omega) hc rfl (Nat.le_of_ble_eq_true rfl) (m_start_0 (u := (0, 0, 0, 4, 0, 0, 0, 0, 0)) (show 6 ≤ _ by have := hw.1; omega) (show _ < h.1 by have := hw.1; omega) hc) (fun r h1 q => ?_)
  obtain ⟨rfl, e9⟩ := q; subst e9
  change mi_WX _ pP X kX9_ofSector 4 2 14 9 [(0, .ref M), (1, .int (nI k)), (2, .int 0)] [.int 0] (mi_set h M (.inr (9, [.int 0, .ref (M + 1), .ref (M + 2), .ref (M + 3), .ref (M + 4), .int 0, .int 0, .int 0, .int 4, .ref (M + 5), .int 0, .double 0, .int 0, .int 0, .int 0]))) _
  refine mi_if_ne okX9_ofSector rfl rfl (fun c_9 => absurd (by decide) c_9) (fun c_9 => ?_)
  refine mi_blk okX9_ofSector 4 (pc' := 17) (lv' := [(0, .ref M), (1, .int (nI k)), (2, .int 0)]) (st' := [.int 8, .int 0, .int 0, .ref M]) rfl ?_
  refine mi_callS okX9_ofSector (mc := 2) (ms := 14) (mc' := 0) (ms' := 0) (As := [.int 0, .int 0, .int 8]) (st := [.ref M]) rfl cs_RX9_46 rfl (by decide) (Nat.le_of_ble_eq_true rfl) (m_isIn_1 (by decide) (by decide)) (fun r h1 q => ?_)
  obtain ⟨rfl, e9⟩ := q; have e9 := e9.symm; subst e9
  change mi_WX _ pP X kX9_ofSector 4 2 14 20 [(0, .ref M), (1, .int (nI k)), (2, .int 0)] [.int 1, .ref M] (mi_set h M (.inr (9, [.int 0, .ref (M + 1), .ref (M + 2), .ref (M + 3), .ref (M + 4), .int 0, .int 0, .int 0, .int 4, .ref (M + 5), .int 0, .double 0, .int 0, .int 0, .int 0]))) _
  refine mi_if_ne okX9_ofSector rfl rfl (fun c_20 => ?_) (fun c_20 => absurd c_20 (by decide))
  refine mi_blk okX9_ofSector 2 (pc' := 29) (lv' := [(0, .ref M), (1, .int (nI k)), (2, .int 0)]) (st' := [.int 2, .int 0, .ref M]) rfl ?_
  refine mi_callV okX9_ofSector (mc := 2) (ms := 14) (mc' := 0) (ms' := 0) (b := M) (As := [.int 0, .int 2]) (st := []) rfl cv_RX9_38 rfl (by decide) (show 6 ≤ _ by have := hw.1; omega) (show _ < h.1 by have := hw.1; omega) mi_set_self rfl (Nat.le_of_ble_eq_true rfl) (m_refuse_0 (u := (0, 0, 0, 4, 0, 0, 0, 0, 0)) (show 6 ≤ _ by have := hw.1; omega) (show _ < h.1 by have := hw.1; omega) mi_set_self) (fun r h1 q => ?_)
  obtain ⟨rfl, e9⟩ := q; have e9 := e9.symm; subst e9
  change mi_WX _ pP X kX9_ofSector 4 2 14 32 [(0, .ref M), (1, .int (nI k)), (2, .int 0)] [.int 0] (mi_set h M (.inr (9, [.int 0, .ref (M + 1), .ref (M + 2), .ref (M + 3), .ref (M + 4), .int 0, .int 0, .int 0, .int 4, .ref (M + 5), .int 0, .double 0, .int 0, .int 0, .int 0]))) _
  refine mi_if_eq okX9_ofSector rfl rfl (fun c_32 => ?_) (fun c_32 => absurd (by decide) c_32)
  refine mi_blk okX9_ofSector 3 (pc' := 42) (lv' := [(0, .ref M), (1, .int (nI k)), (2, .int 0)]) (st' := [.int 0, .int (nI k), .ref M]) rfl ?_
  refine mi_callV okX9_ofSector (mc := 0) (ms := 0) (mc' := 2) (ms' := 14) (b := M) (As := [.int (nI k), .int 0]) (st := []) rfl cv_RX9_224 rfl (by decide) (show 6 ≤ _ by have := hw.1; omega) (show _ < h.1 by have := hw.1; omega) mi_set_self rfl (Nat.le_of_ble_eq_true rfl) (m_toldOfSector_0 (hw.set _) mi_set_self hk) (fun r h1 q => ?_)
  obtain ⟨rfl, e9⟩ := q
  change mi_WX _ pP X kX9_ofSector 4 0 0 45 [(0, .ref M), (1, .int (nI k)), (2, .int 0)] [.int (-1)] h1 _
  exact mi_ret_i okX9_ofSector rfl rfl rfl ⟨rfl, (mp.set mo_0).tp (show M < h.1 by have := hw.1; omega) e9⟩
set_option maxHeartbeats 4000000 in
set_option maxRecDepth 100000 in
theorem m_ofSector_1 {X : mi_X} {h : mi_H} {M : Nat} (hw : mo_W M h) (hc : h.2 M = mo_c M 0 mo_0) {k : Nat} (hk : k < 240) : mi_S pP X kX9_ofSector 4 [.ref M, .int (nI k), .int 1] h 2 14 (fun r h1 => r = some (.int 0) ∧ mp M h 0 h1) := by
  refine enX9_ofSector (Nat.le_of_ble_eq_true rfl) ?_
  refine mi_blk okX9_ofSector 2 (pc' := 2) (lv' := [(0, .ref M), (1, .int (nI k)), (2, .int 1)]) (st' := [.int (nI k), .ref M]) rfl ?_
  refine mi_callS okX9_ofSector (mc := 2) (ms := 14) (mc' := 0) (ms' := 0) (As := [.int (nI k)]) (st := [.ref M]) rfl cs_RX9_166 rfl (by decide) (Nat.le_of_ble_eq_true rfl) (m_isNoSector_0 hk) (fun r h1 q => ?_)
  obtain ⟨rfl, e9⟩ := q; have e9 := e9.symm; subst e9
  change mi_WX _ pP X kX9_ofSector 4 2 14 5 [(0, .ref M), (1, .int (nI k)), (2, .int 1)] [.int 0, .ref M] h _
  refine mi_blk okX9_ofSector 1 (pc' := 6) (lv' := [(0, .ref M), (1, .int (nI k)), (2, .int 1)]) (st' := [.int 1, .int 0, .ref M]) rfl ?_
  refine mi_callV okX9_ofSector (mc := 2) (ms := 14) (mc' := 0) (ms' := 0) (b := M) (As := [.int 0, .int 1]) (st := []) rfl cv_RX9_130 rfl (by decide) (show 6 ≤ _ by have := hw.1; omega) (show _ < h.1 by have := hw.1; omega) hc rfl (Nat.le_of_ble_eq_true rfl) (m_start_0 (u := (0, 0, 0, 4, 0, 0, 0, 0, 0)) (show 6 ≤ _ by have := hw.1; omega) (show _ < h.1 by have := hw.1; omega) hc) (fun r h1 q => ?_)
  obtain ⟨rfl, e9⟩ := q; subst e9
  change mi_WX _ pP X kX9_ofSector 4 2 14 9 [(0, .ref M), (1, .int (nI k)), (2, .int 1)] [.int 0] (mi_set h M (.inr (9, [.int 0, .ref (M + 1), .ref (M + 2), .ref (M + 3), .ref (M + 4), .int 0, .int 0, .int 0, .int 4, .ref (M + 5), .int 0, .double 0, .int 0, .int 0, .int 0]))) _
  refine mi_if_ne okX9_ofSector rfl rfl (fun c_9 => absurd (by decide) c_9) (fun c_9 => ?_)
  refine mi_blk okX9_ofSector 4 (pc' := 17) (lv' := [(0, .ref M), (1, .int (nI k)), (2, .int 1)]) (st' := [.int 8, .int 0, .int 1, .ref M]) rfl ?_
  refine mi_callS okX9_ofSector (mc := 2) (ms := 14) (mc' := 0) (ms' := 0) (As := [.int 1, .int 0, .int 8]) (st := [.ref M]) rfl cs_RX9_46 rfl (by decide) (Nat.le_of_ble_eq_true rfl) (m_isIn_1 (by decide) (by decide)) (fun r h1 q => ?_)
  obtain ⟨rfl, e9⟩ := q; have e9 := e9.symm; subst e9
  change mi_WX _ pP X kX9_ofSector 4 2 14 20 [(0, .ref M), (1, .int (nI k)), (2, .int 1)] [.int 1, .ref M] (mi_set h M (.inr (9, [.int 0, .ref (M + 1), .ref (M + 2), .ref (M + 3), .ref (M + 4), .int 0, .int 0, .int 0, .int 4, .ref (M + 5), .int 0, .double 0, .int 0, .int 0, .int 0]))) _
  refine mi_if_ne okX9_ofSector rfl rfl (fun c_20 => ?_) (fun c_20 => absurd c_20 (by decide))
  refine mi_blk okX9_ofSector 2 (pc' := 29) (lv' := [(0, .ref M), (1, .int (nI k)), (2, .int 1)]) (st' := [.int 2, .int 0, .ref M]) rfl ?_
  refine mi_callV okX9_ofSector (mc := 2) (ms := 14) (mc' := 0) (ms' := 0) (b := M) (As := [.int 0, .int 2]) (st := []) rfl cv_RX9_38 rfl (by decide) (show 6 ≤ _ by have := hw.1; omega) (show _ < h.1 by have := hw.1; omega) mi_set_self rfl (Nat.le_of_ble_eq_true rfl) (m_refuse_0 (u := (0, 0, 0, 4, 0, 0, 0, 0, 0)) (show 6 ≤ _ by have := hw.1; omega) (show _ < h.1 by have := hw.1; omega) mi_set_self) (fun r h1 q => ?_)
  obtain ⟨rfl, e9⟩ := q; have e9 := e9.symm; subst e9
  change mi_WX _ pP X kX9_ofSector 4 2 14 32 [(0, .ref M), (1, .int (nI k)), (2, .int 1)] [.int 0] (mi_set h M (.inr (9, [.int 0, .ref (M + 1), .ref (M + 2), .ref (M + 3), .ref (M + 4), .int 0, .int 0, .int 0, .int 4, .ref (M + 5), .int 0, .double 0, .int 0, .int 0, .int 0]))) _
  refine mi_if_eq okX9_ofSector rfl rfl (fun c_32 => ?_) (fun c_32 => absurd (by decide) c_32)
  refine mi_blk okX9_ofSector 3 (pc' := 42) (lv' := [(0, .ref M), (1, .int (nI k)), (2, .int 1)]) (st' := [.int 1, .int (nI k), .ref M]) rfl ?_
  refine mi_callV okX9_ofSector (mc := 0) (ms := 0) (mc' := 2) (ms' := 14) (b := M) (As := [.int (nI k), .int 1]) (st := []) rfl cv_RX9_224 rfl (by decide) (show 6 ≤ _ by have := hw.1; omega) (show _ < h.1 by have := hw.1; omega) mi_set_self rfl (Nat.le_of_ble_eq_true rfl) (m_toldOfSector_1 (hw.set _) mi_set_self hk) (fun r h1 q => ?_)
  obtain ⟨rfl, e9⟩ := q
  change mi_WX _ pP X kX9_ofSector 4 0 0 45 [(0, .ref M), (1, .int (nI k)), (2, .int 1)] [.int 0] h1 _
  exact mi_ret_i okX9_ofSector rfl rfl rfl ⟨rfl, (mp.set mo_0).tp (show M < h.1 by have := hw.1; omega) e9⟩
set_option maxHeartbeats 4000000 in
set_option maxRecDepth 100000 in
theorem m_ofSector_2 {X : mi_X} {h : mi_H} {M : Nat} (hw : mo_W M h) (hc : h.2 M = mo_c M 0 mo_0) {k : Nat} (hk : k < 240) : mi_S pP X kX9_ofSector 4 [.ref M, .int (nI k), .int 2] h 2 14 (fun r h1 => r = some (.int 0) ∧ mp M h 0 h1) := by
  refine enX9_ofSector (Nat.le_of_ble_eq_true rfl) ?_
  refine mi_blk okX9_ofSector 2 (pc' := 2) (lv' := [(0, .ref M), (1, .int (nI k)), (2, .int 2)]) (st' := [.int (nI k), .ref M]) rfl ?_
  refine mi_callS okX9_ofSector (mc := 2) (ms := 14) (mc' := 0) (ms' := 0) (As := [.int (nI k)]) (st := [.ref M]) rfl cs_RX9_166 rfl (by decide) (Nat.le_of_ble_eq_true rfl) (m_isNoSector_0 hk) (fun r h1 q => ?_)
  obtain ⟨rfl, e9⟩ := q; have e9 := e9.symm; subst e9
  change mi_WX _ pP X kX9_ofSector 4 2 14 5 [(0, .ref M), (1, .int (nI k)), (2, .int 2)] [.int 0, .ref M] h _
  refine mi_blk okX9_ofSector 1 (pc' := 6) (lv' := [(0, .ref M), (1, .int (nI k)), (2, .int 2)]) (st' := [.int 1, .int 0, .ref M]) rfl ?_
  refine mi_callV okX9_ofSector (mc := 2) (ms := 14) (mc' := 0) (ms' := 0) (b := M) (As := [.int 0, .int 1]) (st := []) rfl cv_RX9_130 rfl (by decide) (show 6 ≤ _ by have := hw.1; omega) (show _ < h.1 by have := hw.1; omega) hc rfl (Nat.le_of_ble_eq_true rfl) (m_start_0 (u := (0, 0, 0, 4, 0, 0, 0, 0, 0)) (show 6 ≤ _ by have := hw.1; omega) (show _ < h.1 by have := hw.1; omega) hc) (fun r h1 q => ?_)
  obtain ⟨rfl, e9⟩ := q; subst e9
  change mi_WX _ pP X kX9_ofSector 4 2 14 9 [(0, .ref M), (1, .int (nI k)), (2, .int 2)] [.int 0] (mi_set h M (.inr (9, [.int 0, .ref (M + 1), .ref (M + 2), .ref (M + 3), .ref (M + 4), .int 0, .int 0, .int 0, .int 4, .ref (M + 5), .int 0, .double 0, .int 0, .int 0, .int 0]))) _
  refine mi_if_ne okX9_ofSector rfl rfl (fun c_9 => absurd (by decide) c_9) (fun c_9 => ?_)
  refine mi_blk okX9_ofSector 4 (pc' := 17) (lv' := [(0, .ref M), (1, .int (nI k)), (2, .int 2)]) (st' := [.int 8, .int 0, .int 2, .ref M]) rfl ?_
  refine mi_callS okX9_ofSector (mc := 2) (ms := 14) (mc' := 0) (ms' := 0) (As := [.int 2, .int 0, .int 8]) (st := [.ref M]) rfl cs_RX9_46 rfl (by decide) (Nat.le_of_ble_eq_true rfl) (m_isIn_1 (by decide) (by decide)) (fun r h1 q => ?_)
  obtain ⟨rfl, e9⟩ := q; have e9 := e9.symm; subst e9
  change mi_WX _ pP X kX9_ofSector 4 2 14 20 [(0, .ref M), (1, .int (nI k)), (2, .int 2)] [.int 1, .ref M] (mi_set h M (.inr (9, [.int 0, .ref (M + 1), .ref (M + 2), .ref (M + 3), .ref (M + 4), .int 0, .int 0, .int 0, .int 4, .ref (M + 5), .int 0, .double 0, .int 0, .int 0, .int 0]))) _
  refine mi_if_ne okX9_ofSector rfl rfl (fun c_20 => ?_) (fun c_20 => absurd c_20 (by decide))
  refine mi_blk okX9_ofSector 2 (pc' := 29) (lv' := [(0, .ref M), (1, .int (nI k)), (2, .int 2)]) (st' := [.int 2, .int 0, .ref M]) rfl ?_
  refine mi_callV okX9_ofSector (mc := 2) (ms := 14) (mc' := 0) (ms' := 0) (b := M) (As := [.int 0, .int 2]) (st := []) rfl cv_RX9_38 rfl (by decide) (show 6 ≤ _ by have := hw.1; omega) (show _ < h.1 by have := hw.1; omega) mi_set_self rfl (Nat.le_of_ble_eq_true rfl) (m_refuse_0 (u := (0, 0, 0, 4, 0, 0, 0, 0, 0)) (show 6 ≤ _ by have := hw.1; omega) (show _ < h.1 by have := hw.1; omega) mi_set_self) (fun r h1 q => ?_)
  obtain ⟨rfl, e9⟩ := q; have e9 := e9.symm; subst e9
  change mi_WX _ pP X kX9_ofSector 4 2 14 32 [(0, .ref M), (1, .int (nI k)), (2, .int 2)] [.int 0] (mi_set h M (.inr (9, [.int 0, .ref (M + 1), .ref (M + 2), .ref (M + 3), .ref (M + 4), .int 0, .int 0, .int 0, .int 4, .ref (M + 5), .int 0, .double 0, .int 0, .int 0, .int 0]))) _
  refine mi_if_eq okX9_ofSector rfl rfl (fun c_32 => ?_) (fun c_32 => absurd (by decide) c_32)
  refine mi_blk okX9_ofSector 3 (pc' := 42) (lv' := [(0, .ref M), (1, .int (nI k)), (2, .int 2)]) (st' := [.int 2, .int (nI k), .ref M]) rfl ?_
  refine mi_callV okX9_ofSector (mc := 0) (ms := 0) (mc' := 2) (ms' := 14) (b := M) (As := [.int (nI k), .int 2]) (st := []) rfl cv_RX9_224 rfl (by decide) (show 6 ≤ _ by have := hw.1; omega) (show _ < h.1 by have := hw.1; omega) mi_set_self rfl (Nat.le_of_ble_eq_true rfl) (m_toldOfSector_2 (hw.set _) mi_set_self hk) (fun r h1 q => ?_)
  obtain ⟨rfl, e9⟩ := q
  change mi_WX _ pP X kX9_ofSector 4 0 0 45 [(0, .ref M), (1, .int (nI k)), (2, .int 2)] [.int 0] h1 _
  exact mi_ret_i okX9_ofSector rfl rfl rfl ⟨rfl, (mp.set mo_0).tp (show M < h.1 by have := hw.1; omega) e9⟩
set_option maxHeartbeats 4000000 in
set_option maxRecDepth 100000 in
theorem m_ofSector_3 {X : mi_X} {h : mi_H} {M : Nat} (hw : mo_W M h) (hc : h.2 M = mo_c M 0 mo_0) {k : Nat} (hk : k < 240) : mi_S pP X kX9_ofSector 4 [.ref M, .int (nI k), .int 3] h 2 14 (fun r h1 => r = some (.int 2) ∧ mp M h 0 h1) := by
  refine enX9_ofSector (Nat.le_of_ble_eq_true rfl) ?_
  refine mi_blk okX9_ofSector 2 (pc' := 2) (lv' := [(0, .ref M), (1, .int (nI k)), (2, .int 3)]) (st' := [.int (nI k), .ref M]) rfl ?_
  refine mi_callS okX9_ofSector (mc := 2) (ms := 14) (mc' := 0) (ms' := 0) (As := [.int (nI k)]) (st := [.ref M]) rfl cs_RX9_166 rfl (by decide) (Nat.le_of_ble_eq_true rfl) (m_isNoSector_0 hk) (fun r h1 q => ?_)
  obtain ⟨rfl, e9⟩ := q; have e9 := e9.symm; subst e9
  change mi_WX _ pP X kX9_ofSector 4 2 14 5 [(0, .ref M), (1, .int (nI k)), (2, .int 3)] [.int 0, .ref M] h _
  refine mi_blk okX9_ofSector 1 (pc' := 6) (lv' := [(0, .ref M), (1, .int (nI k)), (2, .int 3)]) (st' := [.int 1, .int 0, .ref M]) rfl ?_
  refine mi_callV okX9_ofSector (mc := 2) (ms := 14) (mc' := 0) (ms' := 0) (b := M) (As := [.int 0, .int 1]) (st := []) rfl cv_RX9_130 rfl (by decide) (show 6 ≤ _ by have := hw.1; omega) (show _ < h.1 by have := hw.1; omega) hc rfl (Nat.le_of_ble_eq_true rfl) (m_start_0 (u := (0, 0, 0, 4, 0, 0, 0, 0, 0)) (show 6 ≤ _ by have := hw.1; omega) (show _ < h.1 by have := hw.1; omega) hc) (fun r h1 q => ?_)
  obtain ⟨rfl, e9⟩ := q; subst e9
  change mi_WX _ pP X kX9_ofSector 4 2 14 9 [(0, .ref M), (1, .int (nI k)), (2, .int 3)] [.int 0] (mi_set h M (.inr (9, [.int 0, .ref (M + 1), .ref (M + 2), .ref (M + 3), .ref (M + 4), .int 0, .int 0, .int 0, .int 4, .ref (M + 5), .int 0, .double 0, .int 0, .int 0, .int 0]))) _
  refine mi_if_ne okX9_ofSector rfl rfl (fun c_9 => absurd (by decide) c_9) (fun c_9 => ?_)
  refine mi_blk okX9_ofSector 4 (pc' := 17) (lv' := [(0, .ref M), (1, .int (nI k)), (2, .int 3)]) (st' := [.int 8, .int 0, .int 3, .ref M]) rfl ?_
  refine mi_callS okX9_ofSector (mc := 2) (ms := 14) (mc' := 0) (ms' := 0) (As := [.int 3, .int 0, .int 8]) (st := [.ref M]) rfl cs_RX9_46 rfl (by decide) (Nat.le_of_ble_eq_true rfl) (m_isIn_1 (by decide) (by decide)) (fun r h1 q => ?_)
  obtain ⟨rfl, e9⟩ := q; have e9 := e9.symm; subst e9
  change mi_WX _ pP X kX9_ofSector 4 2 14 20 [(0, .ref M), (1, .int (nI k)), (2, .int 3)] [.int 1, .ref M] (mi_set h M (.inr (9, [.int 0, .ref (M + 1), .ref (M + 2), .ref (M + 3), .ref (M + 4), .int 0, .int 0, .int 0, .int 4, .ref (M + 5), .int 0, .double 0, .int 0, .int 0, .int 0]))) _
  refine mi_if_ne okX9_ofSector rfl rfl (fun c_20 => ?_) (fun c_20 => absurd c_20 (by decide))
  refine mi_blk okX9_ofSector 2 (pc' := 29) (lv' := [(0, .ref M), (1, .int (nI k)), (2, .int 3)]) (st' := [.int 2, .int 0, .ref M]) rfl ?_
  refine mi_callV okX9_ofSector (mc := 2) (ms := 14) (mc' := 0) (ms' := 0) (b := M) (As := [.int 0, .int 2]) (st := []) rfl cv_RX9_38 rfl (by decide) (show 6 ≤ _ by have := hw.1; omega) (show _ < h.1 by have := hw.1; omega) mi_set_self rfl (Nat.le_of_ble_eq_true rfl) (m_refuse_0 (u := (0, 0, 0, 4, 0, 0, 0, 0, 0)) (show 6 ≤ _ by have := hw.1; omega) (show _ < h.1 by have := hw.1; omega) mi_set_self) (fun r h1 q => ?_)
  obtain ⟨rfl, e9⟩ := q; have e9 := e9.symm; subst e9
  change mi_WX _ pP X kX9_ofSector 4 2 14 32 [(0, .ref M), (1, .int (nI k)), (2, .int 3)] [.int 0] (mi_set h M (.inr (9, [.int 0, .ref (M + 1), .ref (M + 2), .ref (M + 3), .ref (M + 4), .int 0, .int 0, .int 0, .int 4, .ref (M + 5), .int 0, .double 0, .int 0, .int 0, .int 0]))) _
  refine mi_if_eq okX9_ofSector rfl rfl (fun c_32 => ?_) (fun c_32 => absurd (by decide) c_32)
  refine mi_blk okX9_ofSector 3 (pc' := 42) (lv' := [(0, .ref M), (1, .int (nI k)), (2, .int 3)]) (st' := [.int 3, .int (nI k), .ref M]) rfl ?_
  refine mi_callV okX9_ofSector (mc := 0) (ms := 0) (mc' := 2) (ms' := 14) (b := M) (As := [.int (nI k), .int 3]) (st := []) rfl cv_RX9_224 rfl (by decide) (show 6 ≤ _ by have := hw.1; omega) (show _ < h.1 by have := hw.1; omega) mi_set_self rfl (Nat.le_of_ble_eq_true rfl) (m_toldOfSector_3 (hw.set _) mi_set_self hk) (fun r h1 q => ?_)
  obtain ⟨rfl, e9⟩ := q
  change mi_WX _ pP X kX9_ofSector 4 0 0 45 [(0, .ref M), (1, .int (nI k)), (2, .int 3)] [.int 2] h1 _
  exact mi_ret_i okX9_ofSector rfl rfl rfl ⟨rfl, (mp.set mo_0).tp (show M < h.1 by have := hw.1; omega) e9⟩
set_option maxHeartbeats 4000000 in
set_option maxRecDepth 100000 in
theorem m_ofSector_4 {X : mi_X} {h : mi_H} {M : Nat} (hw : mo_W M h) (hc : h.2 M = mo_c M 0 mo_0) {k : Nat} (hk : k < 240) : mi_S pP X kX9_ofSector 4 [.ref M, .int (nI k), .int 4] h 2 14 (fun r h1 => r = some (.int 0) ∧ mp M h 0 h1) := by
  refine enX9_ofSector (Nat.le_of_ble_eq_true rfl) ?_
  refine mi_blk okX9_ofSector 2 (pc' := 2) (lv' := [(0, .ref M), (1, .int (nI k)), (2, .int 4)]) (st' := [.int (nI k), .ref M]) rfl ?_
  refine mi_callS okX9_ofSector (mc := 2) (ms := 14) (mc' := 0) (ms' := 0) (As := [.int (nI k)]) (st := [.ref M]) rfl cs_RX9_166 rfl (by decide) (Nat.le_of_ble_eq_true rfl) (m_isNoSector_0 hk) (fun r h1 q => ?_)
  obtain ⟨rfl, e9⟩ := q; have e9 := e9.symm; subst e9
  change mi_WX _ pP X kX9_ofSector 4 2 14 5 [(0, .ref M), (1, .int (nI k)), (2, .int 4)] [.int 0, .ref M] h _
  refine mi_blk okX9_ofSector 1 (pc' := 6) (lv' := [(0, .ref M), (1, .int (nI k)), (2, .int 4)]) (st' := [.int 1, .int 0, .ref M]) rfl ?_
  refine mi_callV okX9_ofSector (mc := 2) (ms := 14) (mc' := 0) (ms' := 0) (b := M) (As := [.int 0, .int 1]) (st := []) rfl cv_RX9_130 rfl (by decide) (show 6 ≤ _ by have := hw.1; omega) (show _ < h.1 by have := hw.1; omega) hc rfl (Nat.le_of_ble_eq_true rfl) (m_start_0 (u := (0, 0, 0, 4, 0, 0, 0, 0, 0)) (show 6 ≤ _ by have := hw.1; omega) (show _ < h.1 by have := hw.1; omega) hc) (fun r h1 q => ?_)
  obtain ⟨rfl, e9⟩ := q; subst e9
  change mi_WX _ pP X kX9_ofSector 4 2 14 9 [(0, .ref M), (1, .int (nI k)), (2, .int 4)] [.int 0] (mi_set h M (.inr (9, [.int 0, .ref (M + 1), .ref (M + 2), .ref (M + 3), .ref (M + 4), .int 0, .int 0, .int 0, .int 4, .ref (M + 5), .int 0, .double 0, .int 0, .int 0, .int 0]))) _
  refine mi_if_ne okX9_ofSector rfl rfl (fun c_9 => absurd (by decide) c_9) (fun c_9 => ?_)
  refine mi_blk okX9_ofSector 4 (pc' := 17) (lv' := [(0, .ref M), (1, .int (nI k)), (2, .int 4)]) (st' := [.int 8, .int 0, .int 4, .ref M]) rfl ?_
  refine mi_callS okX9_ofSector (mc := 2) (ms := 14) (mc' := 0) (ms' := 0) (As := [.int 4, .int 0, .int 8]) (st := [.ref M]) rfl cs_RX9_46 rfl (by decide) (Nat.le_of_ble_eq_true rfl) (m_isIn_1 (by decide) (by decide)) (fun r h1 q => ?_)
  obtain ⟨rfl, e9⟩ := q; have e9 := e9.symm; subst e9
  change mi_WX _ pP X kX9_ofSector 4 2 14 20 [(0, .ref M), (1, .int (nI k)), (2, .int 4)] [.int 1, .ref M] (mi_set h M (.inr (9, [.int 0, .ref (M + 1), .ref (M + 2), .ref (M + 3), .ref (M + 4), .int 0, .int 0, .int 0, .int 4, .ref (M + 5), .int 0, .double 0, .int 0, .int 0, .int 0]))) _
  refine mi_if_ne okX9_ofSector rfl rfl (fun c_20 => ?_) (fun c_20 => absurd c_20 (by decide))
  refine mi_blk okX9_ofSector 2 (pc' := 29) (lv' := [(0, .ref M), (1, .int (nI k)), (2, .int 4)]) (st' := [.int 2, .int 0, .ref M]) rfl ?_
  refine mi_callV okX9_ofSector (mc := 2) (ms := 14) (mc' := 0) (ms' := 0) (b := M) (As := [.int 0, .int 2]) (st := []) rfl cv_RX9_38 rfl (by decide) (show 6 ≤ _ by have := hw.1; omega) (show _ < h.1 by have := hw.1; omega) mi_set_self rfl (Nat.le_of_ble_eq_true rfl) (m_refuse_0 (u := (0, 0, 0, 4, 0, 0, 0, 0, 0)) (show 6 ≤ _ by have := hw.1; omega) (show _ < h.1 by have := hw.1; omega) mi_set_self) (fun r h1 q => ?_)
  obtain ⟨rfl, e9⟩ := q; have e9 := e9.symm; subst e9
  change mi_WX _ pP X kX9_ofSector 4 2 14 32 [(0, .ref M), (1, .int (nI k)), (2, .int 4)] [.int 0] (mi_set h M (.inr (9, [.int 0, .ref (M + 1), .ref (M + 2), .ref (M + 3), .ref (M + 4), .int 0, .int 0, .int 0, .int 4, .ref (M + 5), .int 0, .double 0, .int 0, .int 0, .int 0]))) _
  refine mi_if_eq okX9_ofSector rfl rfl (fun c_32 => ?_) (fun c_32 => absurd (by decide) c_32)
  refine mi_blk okX9_ofSector 3 (pc' := 42) (lv' := [(0, .ref M), (1, .int (nI k)), (2, .int 4)]) (st' := [.int 4, .int (nI k), .ref M]) rfl ?_
  refine mi_callV okX9_ofSector (mc := 0) (ms := 0) (mc' := 2) (ms' := 14) (b := M) (As := [.int (nI k), .int 4]) (st := []) rfl cv_RX9_224 rfl (by decide) (show 6 ≤ _ by have := hw.1; omega) (show _ < h.1 by have := hw.1; omega) mi_set_self rfl (Nat.le_of_ble_eq_true rfl) (m_toldOfSector_4 (hw.set _) mi_set_self hk) (fun r h1 q => ?_)
  obtain ⟨rfl, e9⟩ := q
  change mi_WX _ pP X kX9_ofSector 4 0 0 45 [(0, .ref M), (1, .int (nI k)), (2, .int 4)] [.int 0] h1 _
  exact mi_ret_i okX9_ofSector rfl rfl rfl ⟨rfl, (mp.set mo_0).tp (show M < h.1 by have := hw.1; omega) e9⟩
set_option maxHeartbeats 4000000 in
set_option maxRecDepth 100000 in
theorem m_ofSector_5 {X : mi_X} {h : mi_H} {M : Nat} (hw : mo_W M h) (hc : h.2 M = mo_c M 0 mo_0) {k : Nat} (hk : k < 240) : mi_S pP X kX9_ofSector 4 [.ref M, .int (nI k), .int 5] h 2 14 (fun r h1 => r = some (.int 0) ∧ mp M h 0 h1) := by
  refine enX9_ofSector (Nat.le_of_ble_eq_true rfl) ?_
  refine mi_blk okX9_ofSector 2 (pc' := 2) (lv' := [(0, .ref M), (1, .int (nI k)), (2, .int 5)]) (st' := [.int (nI k), .ref M]) rfl ?_
  refine mi_callS okX9_ofSector (mc := 2) (ms := 14) (mc' := 0) (ms' := 0) (As := [.int (nI k)]) (st := [.ref M]) rfl cs_RX9_166 rfl (by decide) (Nat.le_of_ble_eq_true rfl) (m_isNoSector_0 hk) (fun r h1 q => ?_)
  obtain ⟨rfl, e9⟩ := q; have e9 := e9.symm; subst e9
  change mi_WX _ pP X kX9_ofSector 4 2 14 5 [(0, .ref M), (1, .int (nI k)), (2, .int 5)] [.int 0, .ref M] h _
  refine mi_blk okX9_ofSector 1 (pc' := 6) (lv' := [(0, .ref M), (1, .int (nI k)), (2, .int 5)]) (st' := [.int 1, .int 0, .ref M]) rfl ?_
  refine mi_callV okX9_ofSector (mc := 2) (ms := 14) (mc' := 0) (ms' := 0) (b := M) (As := [.int 0, .int 1]) (st := []) rfl cv_RX9_130 rfl (by decide) (show 6 ≤ _ by have := hw.1; omega) (show _ < h.1 by have := hw.1; omega) hc rfl (Nat.le_of_ble_eq_true rfl) (m_start_0 (u := (0, 0, 0, 4, 0, 0, 0, 0, 0)) (show 6 ≤ _ by have := hw.1; omega) (show _ < h.1 by have := hw.1; omega) hc) (fun r h1 q => ?_)
  obtain ⟨rfl, e9⟩ := q; subst e9
  change mi_WX _ pP X kX9_ofSector 4 2 14 9 [(0, .ref M), (1, .int (nI k)), (2, .int 5)] [.int 0] (mi_set h M (.inr (9, [.int 0, .ref (M + 1), .ref (M + 2), .ref (M + 3), .ref (M + 4), .int 0, .int 0, .int 0, .int 4, .ref (M + 5), .int 0, .double 0, .int 0, .int 0, .int 0]))) _
  refine mi_if_ne okX9_ofSector rfl rfl (fun c_9 => absurd (by decide) c_9) (fun c_9 => ?_)
  refine mi_blk okX9_ofSector 4 (pc' := 17) (lv' := [(0, .ref M), (1, .int (nI k)), (2, .int 5)]) (st' := [.int 8, .int 0, .int 5, .ref M]) rfl ?_
  refine mi_callS okX9_ofSector (mc := 2) (ms := 14) (mc' := 0) (ms' := 0) (As := [.int 5, .int 0, .int 8]) (st := [.ref M]) rfl cs_RX9_46 rfl (by decide) (Nat.le_of_ble_eq_true rfl) (m_isIn_1 (by decide) (by decide)) (fun r h1 q => ?_)
  obtain ⟨rfl, e9⟩ := q; have e9 := e9.symm; subst e9
  change mi_WX _ pP X kX9_ofSector 4 2 14 20 [(0, .ref M), (1, .int (nI k)), (2, .int 5)] [.int 1, .ref M] (mi_set h M (.inr (9, [.int 0, .ref (M + 1), .ref (M + 2), .ref (M + 3), .ref (M + 4), .int 0, .int 0, .int 0, .int 4, .ref (M + 5), .int 0, .double 0, .int 0, .int 0, .int 0]))) _
  refine mi_if_ne okX9_ofSector rfl rfl (fun c_20 => ?_) (fun c_20 => absurd c_20 (by decide))
  refine mi_blk okX9_ofSector 2 (pc' := 29) (lv' := [(0, .ref M), (1, .int (nI k)), (2, .int 5)]) (st' := [.int 2, .int 0, .ref M]) rfl ?_
  refine mi_callV okX9_ofSector (mc := 2) (ms := 14) (mc' := 0) (ms' := 0) (b := M) (As := [.int 0, .int 2]) (st := []) rfl cv_RX9_38 rfl (by decide) (show 6 ≤ _ by have := hw.1; omega) (show _ < h.1 by have := hw.1; omega) mi_set_self rfl (Nat.le_of_ble_eq_true rfl) (m_refuse_0 (u := (0, 0, 0, 4, 0, 0, 0, 0, 0)) (show 6 ≤ _ by have := hw.1; omega) (show _ < h.1 by have := hw.1; omega) mi_set_self) (fun r h1 q => ?_)
  obtain ⟨rfl, e9⟩ := q; have e9 := e9.symm; subst e9
  change mi_WX _ pP X kX9_ofSector 4 2 14 32 [(0, .ref M), (1, .int (nI k)), (2, .int 5)] [.int 0] (mi_set h M (.inr (9, [.int 0, .ref (M + 1), .ref (M + 2), .ref (M + 3), .ref (M + 4), .int 0, .int 0, .int 0, .int 4, .ref (M + 5), .int 0, .double 0, .int 0, .int 0, .int 0]))) _
  refine mi_if_eq okX9_ofSector rfl rfl (fun c_32 => ?_) (fun c_32 => absurd (by decide) c_32)
  refine mi_blk okX9_ofSector 3 (pc' := 42) (lv' := [(0, .ref M), (1, .int (nI k)), (2, .int 5)]) (st' := [.int 5, .int (nI k), .ref M]) rfl ?_
  refine mi_callV okX9_ofSector (mc := 0) (ms := 0) (mc' := 2) (ms' := 14) (b := M) (As := [.int (nI k), .int 5]) (st := []) rfl cv_RX9_224 rfl (by decide) (show 6 ≤ _ by have := hw.1; omega) (show _ < h.1 by have := hw.1; omega) mi_set_self rfl (Nat.le_of_ble_eq_true rfl) (m_toldOfSector_5 (hw.set _) mi_set_self hk) (fun r h1 q => ?_)
  obtain ⟨rfl, e9⟩ := q
  change mi_WX _ pP X kX9_ofSector 4 0 0 45 [(0, .ref M), (1, .int (nI k)), (2, .int 5)] [.int 0] h1 _
  exact mi_ret_i okX9_ofSector rfl rfl rfl ⟨rfl, (mp.set mo_0).tp (show M < h.1 by have := hw.1; omega) e9⟩
set_option maxHeartbeats 4000000 in
set_option maxRecDepth 100000 in
theorem m_ofSector_6 {X : mi_X} {h : mi_H} {M : Nat} (hw : mo_W M h) (hc : h.2 M = mo_c M 0 mo_0) {k : Nat} (hk : k < 240) : mi_S pP X kX9_ofSector 4 [.ref M, .int (nI k), .int 6] h 2 14 (fun r h1 => r = some (.int 0) ∧ mp M h 0 h1) := by
  refine enX9_ofSector (Nat.le_of_ble_eq_true rfl) ?_
  refine mi_blk okX9_ofSector 2 (pc' := 2) (lv' := [(0, .ref M), (1, .int (nI k)), (2, .int 6)]) (st' := [.int (nI k), .ref M]) rfl ?_
  refine mi_callS okX9_ofSector (mc := 2) (ms := 14) (mc' := 0) (ms' := 0) (As := [.int (nI k)]) (st := [.ref M]) rfl cs_RX9_166 rfl (by decide) (Nat.le_of_ble_eq_true rfl) (m_isNoSector_0 hk) (fun r h1 q => ?_)
  obtain ⟨rfl, e9⟩ := q; have e9 := e9.symm; subst e9
  change mi_WX _ pP X kX9_ofSector 4 2 14 5 [(0, .ref M), (1, .int (nI k)), (2, .int 6)] [.int 0, .ref M] h _
  refine mi_blk okX9_ofSector 1 (pc' := 6) (lv' := [(0, .ref M), (1, .int (nI k)), (2, .int 6)]) (st' := [.int 1, .int 0, .ref M]) rfl ?_
  refine mi_callV okX9_ofSector (mc := 2) (ms := 14) (mc' := 0) (ms' := 0) (b := M) (As := [.int 0, .int 1]) (st := []) rfl cv_RX9_130 rfl (by decide) (show 6 ≤ _ by have := hw.1; omega) (show _ < h.1 by have := hw.1; omega) hc rfl (Nat.le_of_ble_eq_true rfl) (m_start_0 (u := (0, 0, 0, 4, 0, 0, 0, 0, 0)) (show 6 ≤ _ by have := hw.1; omega) (show _ < h.1 by have := hw.1; omega) hc) (fun r h1 q => ?_)
  obtain ⟨rfl, e9⟩ := q; subst e9
  change mi_WX _ pP X kX9_ofSector 4 2 14 9 [(0, .ref M), (1, .int (nI k)), (2, .int 6)] [.int 0] (mi_set h M (.inr (9, [.int 0, .ref (M + 1), .ref (M + 2), .ref (M + 3), .ref (M + 4), .int 0, .int 0, .int 0, .int 4, .ref (M + 5), .int 0, .double 0, .int 0, .int 0, .int 0]))) _
  refine mi_if_ne okX9_ofSector rfl rfl (fun c_9 => absurd (by decide) c_9) (fun c_9 => ?_)
  refine mi_blk okX9_ofSector 4 (pc' := 17) (lv' := [(0, .ref M), (1, .int (nI k)), (2, .int 6)]) (st' := [.int 8, .int 0, .int 6, .ref M]) rfl ?_
  refine mi_callS okX9_ofSector (mc := 2) (ms := 14) (mc' := 0) (ms' := 0) (As := [.int 6, .int 0, .int 8]) (st := [.ref M]) rfl cs_RX9_46 rfl (by decide) (Nat.le_of_ble_eq_true rfl) (m_isIn_1 (by decide) (by decide)) (fun r h1 q => ?_)
  obtain ⟨rfl, e9⟩ := q; have e9 := e9.symm; subst e9
  change mi_WX _ pP X kX9_ofSector 4 2 14 20 [(0, .ref M), (1, .int (nI k)), (2, .int 6)] [.int 1, .ref M] (mi_set h M (.inr (9, [.int 0, .ref (M + 1), .ref (M + 2), .ref (M + 3), .ref (M + 4), .int 0, .int 0, .int 0, .int 4, .ref (M + 5), .int 0, .double 0, .int 0, .int 0, .int 0]))) _
  refine mi_if_ne okX9_ofSector rfl rfl (fun c_20 => ?_) (fun c_20 => absurd c_20 (by decide))
  refine mi_blk okX9_ofSector 2 (pc' := 29) (lv' := [(0, .ref M), (1, .int (nI k)), (2, .int 6)]) (st' := [.int 2, .int 0, .ref M]) rfl ?_
  refine mi_callV okX9_ofSector (mc := 2) (ms := 14) (mc' := 0) (ms' := 0) (b := M) (As := [.int 0, .int 2]) (st := []) rfl cv_RX9_38 rfl (by decide) (show 6 ≤ _ by have := hw.1; omega) (show _ < h.1 by have := hw.1; omega) mi_set_self rfl (Nat.le_of_ble_eq_true rfl) (m_refuse_0 (u := (0, 0, 0, 4, 0, 0, 0, 0, 0)) (show 6 ≤ _ by have := hw.1; omega) (show _ < h.1 by have := hw.1; omega) mi_set_self) (fun r h1 q => ?_)
  obtain ⟨rfl, e9⟩ := q; have e9 := e9.symm; subst e9
  change mi_WX _ pP X kX9_ofSector 4 2 14 32 [(0, .ref M), (1, .int (nI k)), (2, .int 6)] [.int 0] (mi_set h M (.inr (9, [.int 0, .ref (M + 1), .ref (M + 2), .ref (M + 3), .ref (M + 4), .int 0, .int 0, .int 0, .int 4, .ref (M + 5), .int 0, .double 0, .int 0, .int 0, .int 0]))) _
  refine mi_if_eq okX9_ofSector rfl rfl (fun c_32 => ?_) (fun c_32 => absurd (by decide) c_32)
  refine mi_blk okX9_ofSector 3 (pc' := 42) (lv' := [(0, .ref M), (1, .int (nI k)), (2, .int 6)]) (st' := [.int 6, .int (nI k), .ref M]) rfl ?_
  refine mi_callV okX9_ofSector (mc := 0) (ms := 0) (mc' := 2) (ms' := 14) (b := M) (As := [.int (nI k), .int 6]) (st := []) rfl cv_RX9_224 rfl (by decide) (show 6 ≤ _ by have := hw.1; omega) (show _ < h.1 by have := hw.1; omega) mi_set_self rfl (Nat.le_of_ble_eq_true rfl) (m_toldOfSector_6 (hw.set _) mi_set_self hk) (fun r h1 q => ?_)
  obtain ⟨rfl, e9⟩ := q
  change mi_WX _ pP X kX9_ofSector 4 0 0 45 [(0, .ref M), (1, .int (nI k)), (2, .int 6)] [.int 0] h1 _
  exact mi_ret_i okX9_ofSector rfl rfl rfl ⟨rfl, (mp.set mo_0).tp (show M < h.1 by have := hw.1; omega) e9⟩
set_option maxHeartbeats 4000000 in
set_option maxRecDepth 100000 in
theorem m_ofSector_7 {X : mi_X} {h : mi_H} {M : Nat} (hw : mo_W M h) (hc : h.2 M = mo_c M 0 mo_0) {k : Nat} (hk : k < 240) : mi_S pP X kX9_ofSector 4 [.ref M, .int (nI k), .int 7] h 2 14 (fun r h1 => r = some (.int (sp_turn (nI k))) ∧ mp M h 0 h1) := by
  refine enX9_ofSector (Nat.le_of_ble_eq_true rfl) ?_
  refine mi_blk okX9_ofSector 2 (pc' := 2) (lv' := [(0, .ref M), (1, .int (nI k)), (2, .int 7)]) (st' := [.int (nI k), .ref M]) rfl ?_
  refine mi_callS okX9_ofSector (mc := 2) (ms := 14) (mc' := 0) (ms' := 0) (As := [.int (nI k)]) (st := [.ref M]) rfl cs_RX9_166 rfl (by decide) (Nat.le_of_ble_eq_true rfl) (m_isNoSector_0 hk) (fun r h1 q => ?_)
  obtain ⟨rfl, e9⟩ := q; have e9 := e9.symm; subst e9
  change mi_WX _ pP X kX9_ofSector 4 2 14 5 [(0, .ref M), (1, .int (nI k)), (2, .int 7)] [.int 0, .ref M] h _
  refine mi_blk okX9_ofSector 1 (pc' := 6) (lv' := [(0, .ref M), (1, .int (nI k)), (2, .int 7)]) (st' := [.int 1, .int 0, .ref M]) rfl ?_
  refine mi_callV okX9_ofSector (mc := 2) (ms := 14) (mc' := 0) (ms' := 0) (b := M) (As := [.int 0, .int 1]) (st := []) rfl cv_RX9_130 rfl (by decide) (show 6 ≤ _ by have := hw.1; omega) (show _ < h.1 by have := hw.1; omega) hc rfl (Nat.le_of_ble_eq_true rfl) (m_start_0 (u := (0, 0, 0, 4, 0, 0, 0, 0, 0)) (show 6 ≤ _ by have := hw.1; omega) (show _ < h.1 by have := hw.1; omega) hc) (fun r h1 q => ?_)
  obtain ⟨rfl, e9⟩ := q; subst e9
  change mi_WX _ pP X kX9_ofSector 4 2 14 9 [(0, .ref M), (1, .int (nI k)), (2, .int 7)] [.int 0] (mi_set h M (.inr (9, [.int 0, .ref (M + 1), .ref (M + 2), .ref (M + 3), .ref (M + 4), .int 0, .int 0, .int 0, .int 4, .ref (M + 5), .int 0, .double 0, .int 0, .int 0, .int 0]))) _
  refine mi_if_ne okX9_ofSector rfl rfl (fun c_9 => absurd (by decide) c_9) (fun c_9 => ?_)
  refine mi_blk okX9_ofSector 4 (pc' := 17) (lv' := [(0, .ref M), (1, .int (nI k)), (2, .int 7)]) (st' := [.int 8, .int 0, .int 7, .ref M]) rfl ?_
  refine mi_callS okX9_ofSector (mc := 2) (ms := 14) (mc' := 0) (ms' := 0) (As := [.int 7, .int 0, .int 8]) (st := [.ref M]) rfl cs_RX9_46 rfl (by decide) (Nat.le_of_ble_eq_true rfl) (m_isIn_1 (by decide) (by decide)) (fun r h1 q => ?_)
  obtain ⟨rfl, e9⟩ := q; have e9 := e9.symm; subst e9
  change mi_WX _ pP X kX9_ofSector 4 2 14 20 [(0, .ref M), (1, .int (nI k)), (2, .int 7)] [.int 1, .ref M] (mi_set h M (.inr (9, [.int 0, .ref (M + 1), .ref (M + 2), .ref (M + 3), .ref (M + 4), .int 0, .int 0, .int 0, .int 4, .ref (M + 5), .int 0, .double 0, .int 0, .int 0, .int 0]))) _
  refine mi_if_ne okX9_ofSector rfl rfl (fun c_20 => ?_) (fun c_20 => absurd c_20 (by decide))
  refine mi_blk okX9_ofSector 2 (pc' := 29) (lv' := [(0, .ref M), (1, .int (nI k)), (2, .int 7)]) (st' := [.int 2, .int 0, .ref M]) rfl ?_
  refine mi_callV okX9_ofSector (mc := 2) (ms := 14) (mc' := 0) (ms' := 0) (b := M) (As := [.int 0, .int 2]) (st := []) rfl cv_RX9_38 rfl (by decide) (show 6 ≤ _ by have := hw.1; omega) (show _ < h.1 by have := hw.1; omega) mi_set_self rfl (Nat.le_of_ble_eq_true rfl) (m_refuse_0 (u := (0, 0, 0, 4, 0, 0, 0, 0, 0)) (show 6 ≤ _ by have := hw.1; omega) (show _ < h.1 by have := hw.1; omega) mi_set_self) (fun r h1 q => ?_)
  obtain ⟨rfl, e9⟩ := q; have e9 := e9.symm; subst e9
  change mi_WX _ pP X kX9_ofSector 4 2 14 32 [(0, .ref M), (1, .int (nI k)), (2, .int 7)] [.int 0] (mi_set h M (.inr (9, [.int 0, .ref (M + 1), .ref (M + 2), .ref (M + 3), .ref (M + 4), .int 0, .int 0, .int 0, .int 4, .ref (M + 5), .int 0, .double 0, .int 0, .int 0, .int 0]))) _
  refine mi_if_eq okX9_ofSector rfl rfl (fun c_32 => ?_) (fun c_32 => absurd (by decide) c_32)
  refine mi_blk okX9_ofSector 3 (pc' := 42) (lv' := [(0, .ref M), (1, .int (nI k)), (2, .int 7)]) (st' := [.int 7, .int (nI k), .ref M]) rfl ?_
  refine mi_callV okX9_ofSector (mc := 0) (ms := 0) (mc' := 2) (ms' := 14) (b := M) (As := [.int (nI k), .int 7]) (st := []) rfl cv_RX9_224 rfl (by decide) (show 6 ≤ _ by have := hw.1; omega) (show _ < h.1 by have := hw.1; omega) mi_set_self rfl (Nat.le_of_ble_eq_true rfl) (m_toldOfSector_7 (hw.set _) mi_set_self hk) (fun r h1 q => ?_)
  obtain ⟨rfl, e9⟩ := q
  change mi_WX _ pP X kX9_ofSector 4 0 0 45 [(0, .ref M), (1, .int (nI k)), (2, .int 7)] [.int (sp_turn (nI k))] h1 _
  exact mi_ret_i okX9_ofSector rfl rfl rfl ⟨rfl, (mp.set mo_0).tp (show M < h.1 by have := hw.1; omega) e9⟩
set_option maxHeartbeats 4000000 in
set_option maxRecDepth 100000 in
theorem m_ofSector_8 {X : mi_X} {h : mi_H} {M : Nat} (hw : mo_W M h) (hc : h.2 M = mo_c M 0 mo_0) {k : Nat} (hk : k < 240) : mi_S pP X kX9_ofSector 4 [.ref M, .int (nI k), .int 8] h 2 14 (fun r h1 => r = some (.int (sp_pos (nI k))) ∧ mp M h 0 h1) := by
  refine enX9_ofSector (Nat.le_of_ble_eq_true rfl) ?_
  refine mi_blk okX9_ofSector 2 (pc' := 2) (lv' := [(0, .ref M), (1, .int (nI k)), (2, .int 8)]) (st' := [.int (nI k), .ref M]) rfl ?_
  refine mi_callS okX9_ofSector (mc := 2) (ms := 14) (mc' := 0) (ms' := 0) (As := [.int (nI k)]) (st := [.ref M]) rfl cs_RX9_166 rfl (by decide) (Nat.le_of_ble_eq_true rfl) (m_isNoSector_0 hk) (fun r h1 q => ?_)
  obtain ⟨rfl, e9⟩ := q; have e9 := e9.symm; subst e9
  change mi_WX _ pP X kX9_ofSector 4 2 14 5 [(0, .ref M), (1, .int (nI k)), (2, .int 8)] [.int 0, .ref M] h _
  refine mi_blk okX9_ofSector 1 (pc' := 6) (lv' := [(0, .ref M), (1, .int (nI k)), (2, .int 8)]) (st' := [.int 1, .int 0, .ref M]) rfl ?_
  refine mi_callV okX9_ofSector (mc := 2) (ms := 14) (mc' := 0) (ms' := 0) (b := M) (As := [.int 0, .int 1]) (st := []) rfl cv_RX9_130 rfl (by decide) (show 6 ≤ _ by have := hw.1; omega) (show _ < h.1 by have := hw.1; omega) hc rfl (Nat.le_of_ble_eq_true rfl) (m_start_0 (u := (0, 0, 0, 4, 0, 0, 0, 0, 0)) (show 6 ≤ _ by have := hw.1; omega) (show _ < h.1 by have := hw.1; omega) hc) (fun r h1 q => ?_)
  obtain ⟨rfl, e9⟩ := q; subst e9
  change mi_WX _ pP X kX9_ofSector 4 2 14 9 [(0, .ref M), (1, .int (nI k)), (2, .int 8)] [.int 0] (mi_set h M (.inr (9, [.int 0, .ref (M + 1), .ref (M + 2), .ref (M + 3), .ref (M + 4), .int 0, .int 0, .int 0, .int 4, .ref (M + 5), .int 0, .double 0, .int 0, .int 0, .int 0]))) _
  refine mi_if_ne okX9_ofSector rfl rfl (fun c_9 => absurd (by decide) c_9) (fun c_9 => ?_)
  refine mi_blk okX9_ofSector 4 (pc' := 17) (lv' := [(0, .ref M), (1, .int (nI k)), (2, .int 8)]) (st' := [.int 8, .int 0, .int 8, .ref M]) rfl ?_
  refine mi_callS okX9_ofSector (mc := 2) (ms := 14) (mc' := 0) (ms' := 0) (As := [.int 8, .int 0, .int 8]) (st := [.ref M]) rfl cs_RX9_46 rfl (by decide) (Nat.le_of_ble_eq_true rfl) (m_isIn_1 (by decide) (by decide)) (fun r h1 q => ?_)
  obtain ⟨rfl, e9⟩ := q; have e9 := e9.symm; subst e9
  change mi_WX _ pP X kX9_ofSector 4 2 14 20 [(0, .ref M), (1, .int (nI k)), (2, .int 8)] [.int 1, .ref M] (mi_set h M (.inr (9, [.int 0, .ref (M + 1), .ref (M + 2), .ref (M + 3), .ref (M + 4), .int 0, .int 0, .int 0, .int 4, .ref (M + 5), .int 0, .double 0, .int 0, .int 0, .int 0]))) _
  refine mi_if_ne okX9_ofSector rfl rfl (fun c_20 => ?_) (fun c_20 => absurd c_20 (by decide))
  refine mi_blk okX9_ofSector 2 (pc' := 29) (lv' := [(0, .ref M), (1, .int (nI k)), (2, .int 8)]) (st' := [.int 2, .int 0, .ref M]) rfl ?_
  refine mi_callV okX9_ofSector (mc := 2) (ms := 14) (mc' := 0) (ms' := 0) (b := M) (As := [.int 0, .int 2]) (st := []) rfl cv_RX9_38 rfl (by decide) (show 6 ≤ _ by have := hw.1; omega) (show _ < h.1 by have := hw.1; omega) mi_set_self rfl (Nat.le_of_ble_eq_true rfl) (m_refuse_0 (u := (0, 0, 0, 4, 0, 0, 0, 0, 0)) (show 6 ≤ _ by have := hw.1; omega) (show _ < h.1 by have := hw.1; omega) mi_set_self) (fun r h1 q => ?_)
  obtain ⟨rfl, e9⟩ := q; have e9 := e9.symm; subst e9
  change mi_WX _ pP X kX9_ofSector 4 2 14 32 [(0, .ref M), (1, .int (nI k)), (2, .int 8)] [.int 0] (mi_set h M (.inr (9, [.int 0, .ref (M + 1), .ref (M + 2), .ref (M + 3), .ref (M + 4), .int 0, .int 0, .int 0, .int 4, .ref (M + 5), .int 0, .double 0, .int 0, .int 0, .int 0]))) _
  refine mi_if_eq okX9_ofSector rfl rfl (fun c_32 => ?_) (fun c_32 => absurd (by decide) c_32)
  refine mi_blk okX9_ofSector 3 (pc' := 42) (lv' := [(0, .ref M), (1, .int (nI k)), (2, .int 8)]) (st' := [.int 8, .int (nI k), .ref M]) rfl ?_
  refine mi_callV okX9_ofSector (mc := 0) (ms := 0) (mc' := 2) (ms' := 14) (b := M) (As := [.int (nI k), .int 8]) (st := []) rfl cv_RX9_224 rfl (by decide) (show 6 ≤ _ by have := hw.1; omega) (show _ < h.1 by have := hw.1; omega) mi_set_self rfl (Nat.le_of_ble_eq_true rfl) (m_toldOfSector_8 (hw.set _) mi_set_self hk) (fun r h1 q => ?_)
  obtain ⟨rfl, e9⟩ := q
  change mi_WX _ pP X kX9_ofSector 4 0 0 45 [(0, .ref M), (1, .int (nI k)), (2, .int 8)] [.int (sp_pos (nI k))] h1 _
  exact mi_ret_i okX9_ofSector rfl rfl rfl ⟨rfl, (mp.set mo_0).tp (show M < h.1 by have := hw.1; omega) e9⟩
set_option maxHeartbeats 4000000 in
set_option maxRecDepth 100000 in
theorem m_ofSector_w {X : mi_X} {h : mi_H} {M : Nat} (hw : mo_W M h) (hc : h.2 M = mo_c M 0 mo_0) {k : Nat} (hk : k < 240) {y : Int32} (hy : y < 0 ∨ 8 < y) : mi_S pP X kX9_ofSector 2 [.ref M, .int (nI k), .int y] h 0 0 (fun r h1 => r = some (.int 0) ∧ mp M h 2 h1) := by
  refine enX9_ofSector (Nat.le_of_ble_eq_true rfl) ?_
  refine mi_blk okX9_ofSector 2 (pc' := 2) (lv' := [(0, .ref M), (1, .int (nI k)), (2, .int y)]) (st' := [.int (nI k), .ref M]) rfl ?_
  refine mi_callS okX9_ofSector (mc := 0) (ms := 0) (mc' := 0) (ms' := 0) (As := [.int (nI k)]) (st := [.ref M]) rfl cs_RX9_166 rfl (by decide) (Nat.le_of_ble_eq_true rfl) (m_isNoSector_0 hk) (fun r h1 q => ?_)
  obtain ⟨rfl, e9⟩ := q; have e9 := e9.symm; subst e9
  change mi_WX _ pP X kX9_ofSector 2 0 0 5 [(0, .ref M), (1, .int (nI k)), (2, .int y)] [.int 0, .ref M] h _
  refine mi_blk okX9_ofSector 1 (pc' := 6) (lv' := [(0, .ref M), (1, .int (nI k)), (2, .int y)]) (st' := [.int 1, .int 0, .ref M]) rfl ?_
  refine mi_callV okX9_ofSector (mc := 0) (ms := 0) (mc' := 0) (ms' := 0) (b := M) (As := [.int 0, .int 1]) (st := []) rfl cv_RX9_130 rfl (by decide) (show 6 ≤ _ by have := hw.1; omega) (show _ < h.1 by have := hw.1; omega) hc rfl (Nat.le_of_ble_eq_true rfl) (m_start_0 (u := (0, 0, 0, 4, 0, 0, 0, 0, 0)) (show 6 ≤ _ by have := hw.1; omega) (show _ < h.1 by have := hw.1; omega) hc) (fun r h1 q => ?_)
  obtain ⟨rfl, e9⟩ := q; subst e9
  change mi_WX _ pP X kX9_ofSector 2 0 0 9 [(0, .ref M), (1, .int (nI k)), (2, .int y)] [.int 0] (mi_set h M (.inr (9, [.int 0, .ref (M + 1), .ref (M + 2), .ref (M + 3), .ref (M + 4), .int 0, .int 0, .int 0, .int 4, .ref (M + 5), .int 0, .double 0, .int 0, .int 0, .int 0]))) _
  refine mi_if_ne okX9_ofSector rfl rfl (fun c_9 => absurd (by decide) c_9) (fun c_9 => ?_)
  refine mi_blk okX9_ofSector 4 (pc' := 17) (lv' := [(0, .ref M), (1, .int (nI k)), (2, .int y)]) (st' := [.int 8, .int 0, .int y, .ref M]) rfl ?_
  refine mi_callS okX9_ofSector (mc := 0) (ms := 0) (mc' := 0) (ms' := 0) (As := [.int y, .int 0, .int 8]) (st := [.ref M]) rfl cs_RX9_46 rfl (by decide) (Nat.le_of_ble_eq_true rfl) (m_isIn_0 hy) (fun r h1 q => ?_)
  obtain ⟨rfl, e9⟩ := q; have e9 := e9.symm; subst e9
  change mi_WX _ pP X kX9_ofSector 2 0 0 20 [(0, .ref M), (1, .int (nI k)), (2, .int y)] [.int 0, .ref M] (mi_set h M (.inr (9, [.int 0, .ref (M + 1), .ref (M + 2), .ref (M + 3), .ref (M + 4), .int 0, .int 0, .int 0, .int 4, .ref (M + 5), .int 0, .double 0, .int 0, .int 0, .int 0]))) _
  refine mi_if_ne okX9_ofSector rfl rfl (fun c_20 => absurd (by decide) c_20) (fun c_20 => ?_)
  refine mi_blk okX9_ofSector 3 (pc' := 29) (lv' := [(0, .ref M), (1, .int (nI k)), (2, .int y)]) (st' := [.int 2, .int 1, .ref M]) rfl ?_
  refine mi_callV okX9_ofSector (mc := 0) (ms := 0) (mc' := 0) (ms' := 0) (b := M) (As := [.int 1, .int 2]) (st := []) rfl cv_RX9_38 rfl (by decide) (show 6 ≤ _ by have := hw.1; omega) (show _ < h.1 by have := hw.1; omega) mi_set_self rfl (Nat.le_of_ble_eq_true rfl) (m_refuse_1 (u := (0, 0, 0, 4, 0, 0, 0, 0, 0)) (show 6 ≤ _ by have := hw.1; omega) (show _ < h.1 by have := hw.1; omega) mi_set_self (by decide)) (fun r h1 q => ?_)
  obtain ⟨rfl, e9⟩ := q; rw [mi_set_set] at e9; subst e9
  change mi_WX _ pP X kX9_ofSector 2 0 0 32 [(0, .ref M), (1, .int (nI k)), (2, .int y)] [.int 1] (mi_set h M (.inr (9, [.int 2, .ref (M + 1), .ref (M + 2), .ref (M + 3), .ref (M + 4), .int 0, .int 0, .int 0, .int 4, .ref (M + 5), .int 0, .double 0, .int 0, .int 0, .int 0]))) _
  refine mi_if_eq okX9_ofSector rfl rfl (fun c_32 => absurd c_32 (by decide)) (fun c_32 => ?_)
  refine mi_blk okX9_ofSector 2 (pc' := 45) (lv' := [(0, .ref M), (1, .int (nI k)), (2, .int y)]) (st' := [.int 0]) rfl ?_
  exact mi_ret_i okX9_ofSector rfl rfl rfl ⟨rfl, mp.set (0, 0, 0, 4, 0, 0, 0, 0, 0)⟩
set_option maxHeartbeats 4000000 in
set_option maxRecDepth 100000 in
theorem m_nibblesAt_0 {X : mi_X} {h : mi_H} {M : Nat} (hw : mo_W M h) {th : Int32} {u : mo_U} (hc : h.2 M = mo_c M th u) {k : Nat} (hk : k < 240) : mi_S pP X kX9_nibblesAt 1 [.ref M, .int (nI k), .int 0] h 0 0 (fun r h1 => r = some (.long (-1)) ∧ h1 = h) := by
  refine enX9_nibblesAt (Nat.le_of_ble_eq_true rfl) ?_
  refine mi_blk okX9_nibblesAt 1 (pc' := 1) (lv' := [(0, .ref M), (1, .int (nI k)), (2, .int 0)]) (st' := [.int 0]) rfl ?_
  refine mi_if_eq okX9_nibblesAt rfl rfl (fun c_1 => ?_) (fun c_1 => absurd (by decide) c_1)
  refine mi_blk okX9_nibblesAt 1 (pc' := 17) (lv' := [(0, .ref M), (1, .int (nI k)), (2, .int 0)]) (st' := [.ref M]) rfl ?_
  refine mi_getf okX9_nibblesAt rfl fg_RX9_11 (show 6 ≤ _ by have := hw.1; omega) (show _ < h.1 by have := hw.1; omega) hc (v := .ref (M + 1)) rfl ?_
  refine mi_blk okX9_nibblesAt 1 (pc' := 21) (lv' := [(0, .ref M), (1, .int (nI k)), (2, .int 0)]) (st' := [.int (nI k), .ref (M + 1)]) rfl ?_
  refine mo_aab okX9_nibblesAt (k := k) rfl hw hk ?_
  refine mi_blk okX9_nibblesAt 2 (pc' := 24) (lv' := [(3, .null), (0, .ref M), (1, .int (nI k)), (2, .int 0)]) (st' := [.null]) rfl ?_
  refine mi_ifnonnull_n okX9_nibblesAt rfl ?_
  refine mi_ldc2 okX9_nibblesAt (v := (-1 : Int64)) rfl kc_RX9_227 ?_
  refine mi_blk okX9_nibblesAt 1 (pc' := 38) (lv' := [(3, .null), (0, .ref M), (1, .int (nI k)), (2, .int 0)]) (st' := [.long (-1 : Int64)]) rfl ?_
  exact mi_ret_l okX9_nibblesAt rfl rfl ⟨rfl, rfl⟩
set_option maxHeartbeats 4000000 in
set_option maxRecDepth 100000 in
theorem m_nibbles_0 {X : mi_X} {h : mi_H} {M : Nat} (hw : mo_W M h) (hc : h.2 M = mo_c M 0 mo_0) {k : Nat} (hk : k < 240) : mi_S pP X kX9_nibbles 2 [.ref M, .int (nI k), .int 0] h 0 0 (fun r h1 => r = some (.long (-1)) ∧ mp M h 0 h1) := by
  refine enX9_nibbles (Nat.le_of_ble_eq_true rfl) ?_
  refine mi_blk okX9_nibbles 2 (pc' := 2) (lv' := [(0, .ref M), (1, .int (nI k)), (2, .int 0)]) (st' := [.int (nI k), .ref M]) rfl ?_
  refine mi_callS okX9_nibbles (mc := 0) (ms := 0) (mc' := 0) (ms' := 0) (As := [.int (nI k)]) (st := [.ref M]) rfl cs_RX9_166 rfl (by decide) (Nat.le_of_ble_eq_true rfl) (m_isNoSector_0 hk) (fun r h1 q => ?_)
  obtain ⟨rfl, e9⟩ := q; have e9 := e9.symm; subst e9
  change mi_WX _ pP X kX9_nibbles 2 0 0 5 [(0, .ref M), (1, .int (nI k)), (2, .int 0)] [.int 0, .ref M] h _
  refine mi_blk okX9_nibbles 1 (pc' := 6) (lv' := [(0, .ref M), (1, .int (nI k)), (2, .int 0)]) (st' := [.int 1, .int 0, .ref M]) rfl ?_
  refine mi_callV okX9_nibbles (mc := 0) (ms := 0) (mc' := 0) (ms' := 0) (b := M) (As := [.int 0, .int 1]) (st := []) rfl cv_RX9_130 rfl (by decide) (show 6 ≤ _ by have := hw.1; omega) (show _ < h.1 by have := hw.1; omega) hc rfl (Nat.le_of_ble_eq_true rfl) (m_start_0 (u := (0, 0, 0, 4, 0, 0, 0, 0, 0)) (show 6 ≤ _ by have := hw.1; omega) (show _ < h.1 by have := hw.1; omega) hc) (fun r h1 q => ?_)
  obtain ⟨rfl, e9⟩ := q; subst e9
  change mi_WX _ pP X kX9_nibbles 2 0 0 9 [(0, .ref M), (1, .int (nI k)), (2, .int 0)] [.int 0] (mi_set h M (.inr (9, [.int 0, .ref (M + 1), .ref (M + 2), .ref (M + 3), .ref (M + 4), .int 0, .int 0, .int 0, .int 4, .ref (M + 5), .int 0, .double 0, .int 0, .int 0, .int 0]))) _
  refine mi_if_eq okX9_nibbles rfl rfl (fun c_9 => ?_) (fun c_9 => absurd (by decide) c_9)
  refine mi_blk okX9_nibbles 3 (pc' := 19) (lv' := [(0, .ref M), (1, .int (nI k)), (2, .int 0)]) (st' := [.int 0, .int (nI k), .ref M]) rfl ?_
  refine mi_callV okX9_nibbles (mc := 0) (ms := 0) (mc' := 0) (ms' := 0) (b := M) (As := [.int (nI k), .int 0]) (st := []) rfl cv_RX9_229 rfl (by decide) (show 6 ≤ _ by have := hw.1; omega) (show _ < h.1 by have := hw.1; omega) mi_set_self rfl (Nat.le_of_ble_eq_true rfl) (m_nibblesAt_0 (hw.set _) mi_set_self hk) (fun r h1 q => ?_)
  obtain ⟨rfl, e9⟩ := q; have e9 := e9.symm; subst e9
  change mi_WX _ pP X kX9_nibbles 2 0 0 22 [(0, .ref M), (1, .int (nI k)), (2, .int 0)] [.long (-1)] (mi_set h M (.inr (9, [.int 0, .ref (M + 1), .ref (M + 2), .ref (M + 3), .ref (M + 4), .int 0, .int 0, .int 0, .int 4, .ref (M + 5), .int 0, .double 0, .int 0, .int 0, .int 0]))) _
  exact mi_ret_l okX9_nibbles rfl rfl ⟨rfl, mp.set (0, 0, 0, 4, 0, 0, 0, 0, 0)⟩
set_option maxHeartbeats 4000000 in
set_option maxRecDepth 100000 in
theorem m_nibblesAt_1 {X : mi_X} {h : mi_H} {M : Nat} (hw : mo_W M h) {th : Int32} {u : mo_U} (hc : h.2 M = mo_c M th u) {k : Nat} (hk : k < 240) : mi_S pP X kX9_nibblesAt 1 [.ref M, .int (nI k), .int 1] h 0 0 (fun r h1 => r = some (.long (-1)) ∧ h1 = h) := by
  refine enX9_nibblesAt (Nat.le_of_ble_eq_true rfl) ?_
  refine mi_blk okX9_nibblesAt 1 (pc' := 1) (lv' := [(0, .ref M), (1, .int (nI k)), (2, .int 1)]) (st' := [.int 1]) rfl ?_
  refine mi_if_eq okX9_nibblesAt rfl rfl (fun c_1 => absurd c_1 (by decide)) (fun c_1 => ?_)
  refine mi_blk okX9_nibblesAt 1 (pc' := 5) (lv' := [(0, .ref M), (1, .int (nI k)), (2, .int 1)]) (st' := [.ref M]) rfl ?_
  refine mi_getf okX9_nibblesAt rfl fg_RX9_11 (show 6 ≤ _ by have := hw.1; omega) (show _ < h.1 by have := hw.1; omega) hc (v := .ref (M + 1)) rfl ?_
  refine mi_blk okX9_nibblesAt 1 (pc' := 9) (lv' := [(0, .ref M), (1, .int (nI k)), (2, .int 1)]) (st' := [.int (nI k), .ref (M + 1)]) rfl ?_
  refine mo_aab okX9_nibblesAt (k := k) rfl hw hk ?_
  refine mi_callS okX9_nibblesAt (mc := 0) (ms := 0) (mc' := 0) (ms' := 0) (As := [.null]) (st := []) rfl cs_RX9_84 rfl (by decide) (Nat.le_of_ble_eq_true rfl) m_mended (fun r h1 q => ?_)
  obtain ⟨rfl, e9⟩ := q; have e9 := e9.symm; subst e9
  change mi_WX _ pP X kX9_nibblesAt 1 0 0 13 [(0, .ref M), (1, .int (nI k)), (2, .int 1)] [.null] h _
  refine mi_blk okX9_nibblesAt 3 (pc' := 24) (lv' := [(3, .null), (0, .ref M), (1, .int (nI k)), (2, .int 1)]) (st' := [.null]) rfl ?_
  refine mi_ifnonnull_n okX9_nibblesAt rfl ?_
  refine mi_ldc2 okX9_nibblesAt (v := (-1 : Int64)) rfl kc_RX9_227 ?_
  refine mi_blk okX9_nibblesAt 1 (pc' := 38) (lv' := [(3, .null), (0, .ref M), (1, .int (nI k)), (2, .int 1)]) (st' := [.long (-1 : Int64)]) rfl ?_
  exact mi_ret_l okX9_nibblesAt rfl rfl ⟨rfl, rfl⟩
set_option maxHeartbeats 4000000 in
set_option maxRecDepth 100000 in
theorem m_nibbles_1 {X : mi_X} {h : mi_H} {M : Nat} (hw : mo_W M h) (hc : h.2 M = mo_c M 0 mo_0) {k : Nat} (hk : k < 240) : mi_S pP X kX9_nibbles 2 [.ref M, .int (nI k), .int 1] h 0 0 (fun r h1 => r = some (.long (-1)) ∧ mp M h 0 h1) := by
  refine enX9_nibbles (Nat.le_of_ble_eq_true rfl) ?_
  refine mi_blk okX9_nibbles 2 (pc' := 2) (lv' := [(0, .ref M), (1, .int (nI k)), (2, .int 1)]) (st' := [.int (nI k), .ref M]) rfl ?_
  refine mi_callS okX9_nibbles (mc := 0) (ms := 0) (mc' := 0) (ms' := 0) (As := [.int (nI k)]) (st := [.ref M]) rfl cs_RX9_166 rfl (by decide) (Nat.le_of_ble_eq_true rfl) (m_isNoSector_0 hk) (fun r h1 q => ?_)
  obtain ⟨rfl, e9⟩ := q; have e9 := e9.symm; subst e9
  change mi_WX _ pP X kX9_nibbles 2 0 0 5 [(0, .ref M), (1, .int (nI k)), (2, .int 1)] [.int 0, .ref M] h _
  refine mi_blk okX9_nibbles 1 (pc' := 6) (lv' := [(0, .ref M), (1, .int (nI k)), (2, .int 1)]) (st' := [.int 1, .int 0, .ref M]) rfl ?_
  refine mi_callV okX9_nibbles (mc := 0) (ms := 0) (mc' := 0) (ms' := 0) (b := M) (As := [.int 0, .int 1]) (st := []) rfl cv_RX9_130 rfl (by decide) (show 6 ≤ _ by have := hw.1; omega) (show _ < h.1 by have := hw.1; omega) hc rfl (Nat.le_of_ble_eq_true rfl) (m_start_0 (u := (0, 0, 0, 4, 0, 0, 0, 0, 0)) (show 6 ≤ _ by have := hw.1; omega) (show _ < h.1 by have := hw.1; omega) hc) (fun r h1 q => ?_)
  obtain ⟨rfl, e9⟩ := q; subst e9
  change mi_WX _ pP X kX9_nibbles 2 0 0 9 [(0, .ref M), (1, .int (nI k)), (2, .int 1)] [.int 0] (mi_set h M (.inr (9, [.int 0, .ref (M + 1), .ref (M + 2), .ref (M + 3), .ref (M + 4), .int 0, .int 0, .int 0, .int 4, .ref (M + 5), .int 0, .double 0, .int 0, .int 0, .int 0]))) _
  refine mi_if_eq okX9_nibbles rfl rfl (fun c_9 => ?_) (fun c_9 => absurd (by decide) c_9)
  refine mi_blk okX9_nibbles 3 (pc' := 19) (lv' := [(0, .ref M), (1, .int (nI k)), (2, .int 1)]) (st' := [.int 1, .int (nI k), .ref M]) rfl ?_
  refine mi_callV okX9_nibbles (mc := 0) (ms := 0) (mc' := 0) (ms' := 0) (b := M) (As := [.int (nI k), .int 1]) (st := []) rfl cv_RX9_229 rfl (by decide) (show 6 ≤ _ by have := hw.1; omega) (show _ < h.1 by have := hw.1; omega) mi_set_self rfl (Nat.le_of_ble_eq_true rfl) (m_nibblesAt_1 (hw.set _) mi_set_self hk) (fun r h1 q => ?_)
  obtain ⟨rfl, e9⟩ := q; have e9 := e9.symm; subst e9
  change mi_WX _ pP X kX9_nibbles 2 0 0 22 [(0, .ref M), (1, .int (nI k)), (2, .int 1)] [.long (-1)] (mi_set h M (.inr (9, [.int 0, .ref (M + 1), .ref (M + 2), .ref (M + 3), .ref (M + 4), .int 0, .int 0, .int 0, .int 4, .ref (M + 5), .int 0, .double 0, .int 0, .int 0, .int 0]))) _
  exact mi_ret_l okX9_nibbles rfl rfl ⟨rfl, mp.set (0, 0, 0, 4, 0, 0, 0, 0, 0)⟩
