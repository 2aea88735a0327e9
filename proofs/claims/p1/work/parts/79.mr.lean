-- the reference's READ
def mo_f (x : Int32) : UInt32 := if 60 ≤ x then (if 140 ≤ x then 1069547520 else 1067450368) else FP.fconst1
set_option maxRecDepth 100000 in
theorem mo_fb : (List.range 240).all (fun k => decide (mo_f (nI k) = sp_spd (nI k)) && decide ((if nI k + 1 < 239 then nI k + 1 else (239 : Int32)) = nI (hd_b k))) = true := by decide +kernel
theorem mo_f_ok {k : Nat} (hk : k < 240) : mo_f (nI k) = sp_spd (nI k) ∧ (if nI k + 1 < 239 then nI k + 1 else (239 : Int32)) = nI (hd_b k) := by
  have h := List.all_eq_true.mp mo_fb k (List.mem_range.mpr hk)
  rw [Bool.and_eq_true] at h
  exact ⟨of_decide_eq_true h.1, of_decide_eq_true h.2⟩
set_option maxHeartbeats 4000000 in
set_option maxRecDepth 100000 in
theorem m_readOf {X : mi_X} {h : mi_H} {k : Nat} (hk : k < 240) : mi_S pP X kX9_readOf 0 [.int (nI k)] h 0 0 (fun r h1 => r = some (.double (sp_step k)) ∧ h1 = h) := by
  refine enX9_readOf (Nat.le_of_ble_eq_true rfl) ?_
  refine mi_blk okX9_readOf 2 (pc' := 3) (lv' := [(0, .int (nI k))]) (st' := [.int 60, .int (nI k)]) rfl ?_
  refine mi_ic_ge okX9_readOf rfl rfl (fun c_3 => ?_) (fun c_3 => ?_)
  · refine mi_blk okX9_readOf 2 (pc' := 14) (lv' := [(0, .int (nI k))]) (st' := [.int 140, .int (nI k)]) rfl ?_
    refine mi_ic_ge okX9_readOf rfl rfl (fun c_14 => ?_) (fun c_14 => ?_)
    · refine mi_ldcf okX9_readOf (v := (1069547520 : UInt32)) rfl kc_RX9_191 ?_
      have e1 : ((1069547520 : UInt32) : UInt32) = sp_spd (nI k) := by rw [← (mo_f_ok hk).1, mo_f, if_pos c_3, if_pos c_14]
      rw [e1]
      refine mi_blk okX9_readOf 1 (pc' := 25) (lv' := [(1, .float (sp_spd (nI k))), (0, .int (nI k))]) (st' := []) rfl ?_
      refine mi_ldc2d okX9_readOf (v := (4602678819172646912 : UInt64)) rfl kc_RX9_192 ?_
      refine mi_blk okX9_readOf 1 (pc' := 29) (lv' := [(1, .float (sp_spd (nI k))), (0, .int (nI k))]) (st' := [.float (sp_spd (nI k)), .double (4602678819172646912 : UInt64)]) rfl ?_
      refine mi_f2d okX9_readOf rfl (step_ok k).1 ?_
      refine mi_ddiv okX9_readOf rfl (step_ok k).2 ?_
      exact mi_ret_d okX9_readOf rfl rfl ⟨rfl, rfl⟩
    · refine mi_ldcf okX9_readOf (v := (1067450368 : UInt32)) rfl kc_RX9_190 ?_
      refine mi_blk okX9_readOf 1 (pc' := 24) (lv' := [(0, .int (nI k))]) (st' := [.float (1067450368 : UInt32)]) rfl ?_
      have e1 : ((1067450368 : UInt32) : UInt32) = sp_spd (nI k) := by rw [← (mo_f_ok hk).1, mo_f, if_pos c_3, if_neg c_14]
      rw [e1]
      refine mi_blk okX9_readOf 1 (pc' := 25) (lv' := [(1, .float (sp_spd (nI k))), (0, .int (nI k))]) (st' := []) rfl ?_
      refine mi_ldc2d okX9_readOf (v := (4602678819172646912 : UInt64)) rfl kc_RX9_192 ?_
      refine mi_blk okX9_readOf 1 (pc' := 29) (lv' := [(1, .float (sp_spd (nI k))), (0, .int (nI k))]) (st' := [.float (sp_spd (nI k)), .double (4602678819172646912 : UInt64)]) rfl ?_
      refine mi_f2d okX9_readOf rfl (step_ok k).1 ?_
      refine mi_ddiv okX9_readOf rfl (step_ok k).2 ?_
      exact mi_ret_d okX9_readOf rfl rfl ⟨rfl, rfl⟩
  · refine mi_blk okX9_readOf 2 (pc' := 24) (lv' := [(0, .int (nI k))]) (st' := [.float FP.fconst1]) rfl ?_
    have e1 : (FP.fconst1 : UInt32) = sp_spd (nI k) := by rw [← (mo_f_ok hk).1, mo_f, if_neg c_3]
    rw [e1]
    refine mi_blk okX9_readOf 1 (pc' := 25) (lv' := [(1, .float (sp_spd (nI k))), (0, .int (nI k))]) (st' := []) rfl ?_
    refine mi_ldc2d okX9_readOf (v := (4602678819172646912 : UInt64)) rfl kc_RX9_192 ?_
    refine mi_blk okX9_readOf 1 (pc' := 29) (lv' := [(1, .float (sp_spd (nI k))), (0, .int (nI k))]) (st' := [.float (sp_spd (nI k)), .double (4602678819172646912 : UInt64)]) rfl ?_
    refine mi_f2d okX9_readOf rfl (step_ok k).1 ?_
    refine mi_ddiv okX9_readOf rfl (step_ok k).2 ?_
    exact mi_ret_d okX9_readOf rfl rfl ⟨rfl, rfl⟩
set_option maxHeartbeats 4000000 in
set_option maxRecDepth 100000 in
theorem m_behind {X : mi_X} {h : mi_H} {k : Nat} (hk : k < 240) : mi_S pP X kX9_behind 1 [.int (nI k)] h 0 0 (fun r h1 => r = some (.int (nI (hd_b k))) ∧ h1 = h) := by
  refine enX9_behind (Nat.le_of_ble_eq_true rfl) ?_
  refine mi_blk okX9_behind 4 (pc' := 6) (lv' := [(0, .int (nI k))]) (st' := [.int ((nI k) + 1), .int 239]) rfl ?_
  refine mi_min okX9_behind rfl mm_RX9_194 ms_min mz_Math mc_min (by decide) (Nat.le_of_ble_eq_true rfl) ?_
  exact mi_ret_i okX9_behind rfl rfl rfl ⟨by rw [(mo_f_ok hk).2], rfl⟩
set_option maxHeartbeats 4000000 in
set_option maxRecDepth 100000 in
theorem m_read {X : mi_X} {h : mi_H} {M : Nat} (hw : mo_W M h) (hc : h.2 M = mo_c M 0 mo_0) {k : Nat} (hk : k < 240) (hx : dr_okc FP.dconst0 0 k) : mi_S pP X kX9_read 4 [.ref M, .int (nI k)] h 0 0 (fun r h1 => r = some (.int 2) ∧ mp M h 0 h1) := by
  refine enX9_read (Nat.le_of_ble_eq_true rfl) ?_
  refine mi_blk okX9_read 2 (pc' := 2) (lv' := [(0, .ref M), (1, .int (nI k))]) (st' := [.int (nI k), .ref M]) rfl ?_
  refine mi_callS okX9_read (mc := 0) (ms := 0) (mc' := 0) (ms' := 0) (As := [.int (nI k)]) (st := [.ref M]) rfl cs_RX9_166 rfl (by decide) (Nat.le_of_ble_eq_true rfl) (m_isNoSector_0 hk) (fun r h1 q => ?_)
  obtain ⟨rfl, e9⟩ := q; have e9 := e9.symm; subst e9
  change mi_WX _ pP X kX9_read 4 0 0 5 [(0, .ref M), (1, .int (nI k))] [.int 0, .ref M] h _
  refine mi_blk okX9_read 1 (pc' := 6) (lv' := [(0, .ref M), (1, .int (nI k))]) (st' := [.int 1, .int 0, .ref M]) rfl ?_
  refine mi_callV okX9_read (mc := 0) (ms := 0) (mc' := 0) (ms' := 0) (b := M) (As := [.int 0, .int 1]) (st := []) rfl cv_RX9_130 rfl (by decide) (show 6 ≤ _ by have := hw.1; omega) (show _ < h.1 by have := hw.1; omega) hc rfl (Nat.le_of_ble_eq_true rfl) (m_start_0 (h := h) (u := (0, 0, 0, 4, 0, 0, 0, 0, 0)) (show 6 ≤ _ by have := hw.1; omega) (show _ < h.1 by have := hw.1; omega) hc) (fun r h1 q => ?_)
  obtain ⟨rfl, e9⟩ := q; subst e9
  change mi_WX _ pP X kX9_read 4 0 0 9 [(0, .ref M), (1, .int (nI k))] [.int 0] (mi_set h M (.inr (9, [.int 0, .ref (M + 1), .ref (M + 2), .ref (M + 3), .ref (M + 4), .int 0, .int 0, .int 0, .int 4, .ref (M + 5), .int 0, .double 0, .int 0, .int 0, .int 0]))) _
  refine mi_if_ne okX9_read rfl rfl (fun c_9 => absurd (by decide) c_9) (fun c_9 => ?_)
  refine mi_blk okX9_read 2 (pc' := 14) (lv' := [(0, .ref M), (1, .int (nI k))]) (st' := [.ref M, .ref M]) rfl ?_
  refine mi_getf okX9_read rfl fg_RX9_178 (show 6 ≤ _ by have := hw.1; omega) (show _ < h.1 by have := hw.1; omega) mi_set_self (v := .int 0) rfl ?_
  refine mi_blk okX9_read 1 (pc' := 18) (lv' := [(0, .ref M), (1, .int (nI k))]) (st' := [.int 2, .int 0, .ref M]) rfl ?_
  refine mi_callV okX9_read (mc := 0) (ms := 0) (mc' := 0) (ms' := 0) (b := M) (As := [.int 0, .int 2]) (st := []) rfl cv_RX9_38 rfl (by decide) (show 6 ≤ _ by have := hw.1; omega) (show _ < h.1 by have := hw.1; omega) mi_set_self rfl (Nat.le_of_ble_eq_true rfl) (m_refuse_0 (h := (mi_set h M (.inr (9, [.int 0, .ref (M + 1), .ref (M + 2), .ref (M + 3), .ref (M + 4), .int 0, .int 0, .int 0, .int 4, .ref (M + 5), .int 0, .double 0, .int 0, .int 0, .int 0])))) (u := (0, 0, 0, 4, 0, 0, 0, 0, 0)) (show 6 ≤ _ by have := hw.1; omega) (show _ < h.1 by have := hw.1; omega) mi_set_self) (fun r h1 q => ?_)
  obtain ⟨rfl, e9⟩ := q; have e9 := e9.symm; subst e9
  change mi_WX _ pP X kX9_read 4 0 0 21 [(0, .ref M), (1, .int (nI k))] [.int 0] (mi_set h M (.inr (9, [.int 0, .ref (M + 1), .ref (M + 2), .ref (M + 3), .ref (M + 4), .int 0, .int 0, .int 0, .int 4, .ref (M + 5), .int 0, .double 0, .int 0, .int 0, .int 0]))) _
  refine mi_if_eq okX9_read rfl rfl (fun c_21 => ?_) (fun c_21 => absurd (by decide) c_21)
  refine mi_blk okX9_read 2 (pc' := 28) (lv' := [(0, .ref M), (1, .int (nI k))]) (st' := [.ref M, .ref M]) rfl ?_
  refine mi_getf okX9_read rfl fg_RX9_197 (show 6 ≤ _ by have := hw.1; omega) (show _ < h.1 by have := hw.1; omega) mi_set_self (v := .double 0) rfl ?_
  refine mi_blk okX9_read 1 (pc' := 32) (lv' := [(0, .ref M), (1, .int (nI k))]) (st' := [.ref M, .double 0, .ref M]) rfl ?_
  refine mi_getf okX9_read rfl fg_RX9_201 (show 6 ≤ _ by have := hw.1; omega) (show _ < h.1 by have := hw.1; omega) mi_set_self (v := .int 0) rfl ?_
  refine mi_blk okX9_read 1 (pc' := 36) (lv' := [(0, .ref M), (1, .int (nI k))]) (st' := [.int (nI k), .int 0, .double 0, .ref M]) rfl ?_
  refine mi_callS okX9_read (mc := 0) (ms := 0) (mc' := 0) (ms' := 0) (As := [.int 0, .int (nI k)]) (st := [.double 0, .ref M]) rfl cs_RX9_204 rfl (by decide) (Nat.le_of_ble_eq_true rfl) (show mi_S pP X kX9_seekFrom 1 [.int 0, .int (nI k)] _ 0 0 _ from m_seekFrom hk) (fun r h1 q => ?_)
  obtain ⟨rfl, e9⟩ := q; have e9 := e9.symm; subst e9
  change mi_WX _ pP X kX9_read 4 0 0 39 [(0, .ref M), (1, .int (nI k))] [.double (dr_sk 0 k), .double 0, .ref M] (mi_set h M (.inr (9, [.int 0, .ref (M + 1), .ref (M + 2), .ref (M + 3), .ref (M + 4), .int 0, .int 0, .int 0, .int 4, .ref (M + 5), .int 0, .double 0, .int 0, .int 0, .int 0]))) _
  refine mi_dadd okX9_read rfl hx.1 ?_
  refine mi_putf' okX9_read rfl fd_RX9_197 (show 6 ≤ _ by have := hw.1; omega) (show _ < h.1 by have := hw.1; omega) mi_set_self (fs' := [.int 0, .ref (M + 1), .ref (M + 2), .ref (M + 3), .ref (M + 4), .int 0, .int 0, .int 0, .int 4, .ref (M + 5), .int 0, .double (FP.dadd 0 (dr_sk 0 k)), .int 0, .int 0, .int 0]) rfl (Nat.le_of_ble_eq_true rfl) rfl rfl ?_
  rw [mi_set_set]
  refine mi_blk okX9_read 2 (pc' := 45) (lv' := [(0, .ref M), (1, .int (nI k))]) (st' := [.ref M, .ref M]) rfl ?_
  refine mi_getf okX9_read rfl fg_RX9_197 (show 6 ≤ _ by have := hw.1; omega) (show _ < h.1 by have := hw.1; omega) mi_set_self (v := .double (FP.dadd 0 (dr_sk 0 k))) rfl ?_
  refine mi_blk okX9_read 1 (pc' := 49) (lv' := [(0, .ref M), (1, .int (nI k))]) (st' := [.int (nI k), .double (FP.dadd 0 (dr_sk 0 k)), .ref M]) rfl ?_
  refine mi_callS okX9_read (mc := 0) (ms := 0) (mc' := 0) (ms' := 0) (As := [.int (nI k)]) (st := [.double (FP.dadd 0 (dr_sk 0 k)), .ref M]) rfl cs_RX9_208 rfl (by decide) (Nat.le_of_ble_eq_true rfl) (m_readOf hk) (fun r h1 q => ?_)
  obtain ⟨rfl, e9⟩ := q; have e9 := e9.symm; subst e9
  change mi_WX _ pP X kX9_read 4 0 0 52 [(0, .ref M), (1, .int (nI k))] [.double (sp_step k), .double (FP.dadd 0 (dr_sk 0 k)), .ref M] (mi_set h M (.inr (9, [.int 0, .ref (M + 1), .ref (M + 2), .ref (M + 3), .ref (M + 4), .int 0, .int 0, .int 0, .int 4, .ref (M + 5), .int 0, .double (FP.dadd 0 (dr_sk 0 k)), .int 0, .int 0, .int 0]))) _
  refine mi_dadd okX9_read rfl hx.2 ?_
  refine mi_putf' okX9_read rfl fd_RX9_197 (show 6 ≤ _ by have := hw.1; omega) (show _ < h.1 by have := hw.1; omega) mi_set_self (fs' := [.int 0, .ref (M + 1), .ref (M + 2), .ref (M + 3), .ref (M + 4), .int 0, .int 0, .int 0, .int 4, .ref (M + 5), .int 0, .double (FP.dadd (FP.dadd 0 (dr_sk 0 k)) (sp_step k)), .int 0, .int 0, .int 0]) rfl (Nat.le_of_ble_eq_true rfl) rfl rfl ?_
  rw [mi_set_set]
  refine mi_blk okX9_read 2 (pc' := 58) (lv' := [(0, .ref M), (1, .int (nI k))]) (st' := [.int (nI k), .ref M]) rfl ?_
  refine mi_callS okX9_read (mc := 0) (ms := 0) (mc' := 0) (ms' := 0) (As := [.int (nI k)]) (st := [.ref M]) rfl cs_RX9_211 rfl (by decide) (Nat.le_of_ble_eq_true rfl) (m_behind hk) (fun r h1 q => ?_)
  obtain ⟨rfl, e9⟩ := q; have e9 := e9.symm; subst e9
  change mi_WX _ pP X kX9_read 4 0 0 61 [(0, .ref M), (1, .int (nI k))] [.int (nI (hd_b k)), .ref M] (mi_set h M (.inr (9, [.int 0, .ref (M + 1), .ref (M + 2), .ref (M + 3), .ref (M + 4), .int 0, .int 0, .int 0, .int 4, .ref (M + 5), .int 0, .double (FP.dadd (FP.dadd 0 (dr_sk 0 k)) (sp_step k)), .int 0, .int 0, .int 0]))) _
  refine mi_putf' okX9_read rfl fd_RX9_201 (show 6 ≤ _ by have := hw.1; omega) (show _ < h.1 by have := hw.1; omega) mi_set_self (fs' := [.int 0, .ref (M + 1), .ref (M + 2), .ref (M + 3), .ref (M + 4), .int 0, .int 0, .int 0, .int 4, .ref (M + 5), .int (nI (hd_b k)), .double (FP.dadd (FP.dadd 0 (dr_sk 0 k)) (sp_step k)), .int 0, .int 0, .int 0]) rfl (Nat.le_of_ble_eq_true rfl) rfl rfl ?_
  rw [mi_set_set]
  refine mi_blk okX9_read 2 (pc' := 66) (lv' := [(0, .ref M), (1, .int (nI k))]) (st' := [.ref M, .ref M]) rfl ?_
  refine mi_getf okX9_read rfl fg_RX9_214 (show 6 ≤ _ by have := hw.1; omega) (show _ < h.1 by have := hw.1; omega) mi_set_self (v := .int 0) rfl ?_
  refine mi_blk okX9_read 2 (pc' := 71) (lv' := [(0, .ref M), (1, .int (nI k))]) (st' := [.int 1, .ref M]) rfl ?_
  refine mi_putf' okX9_read rfl fd_RX9_214 (show 6 ≤ _ by have := hw.1; omega) (show _ < h.1 by have := hw.1; omega) mi_set_self (fs' := [.int 0, .ref (M + 1), .ref (M + 2), .ref (M + 3), .ref (M + 4), .int 0, .int 0, .int 0, .int 4, .ref (M + 5), .int (nI (hd_b k)), .double (FP.dadd (FP.dadd 0 (dr_sk 0 k)) (sp_step k)), .int 1, .int 0, .int 0]) rfl (Nat.le_of_ble_eq_true rfl) rfl rfl ?_
  rw [mi_set_set]
  refine mi_blk okX9_read 2 (pc' := 76) (lv' := [(0, .ref M), (1, .int (nI k))]) (st' := [.int (nI k), .ref M]) rfl ?_
  refine mi_callV okX9_read (mc := 0) (ms := 0) (mc' := 0) (ms' := 0) (b := M) (As := [.int (nI k)]) (st := []) rfl cv_RX9_104 rfl (by decide) (show 6 ≤ _ by have := hw.1; omega) (show _ < h.1 by have := hw.1; omega) mi_set_self rfl (Nat.le_of_ble_eq_true rfl) (m_worth (h := (mi_set h M (.inr (9, [.int 0, .ref (M + 1), .ref (M + 2), .ref (M + 3), .ref (M + 4), .int 0, .int 0, .int 0, .int 4, .ref (M + 5), .int (nI (hd_b k)), .double (FP.dadd (FP.dadd 0 (dr_sk 0 k)) (sp_step k)), .int 1, .int 0, .int 0])))) (u := (0, 0, 0, 4, (nI (hd_b k)), FP.dadd (FP.dadd 0 (dr_sk 0 k)) (sp_step k), 1, 0, 0)) (hw.set _) mi_set_self hk) (fun r h1 q => ?_)
  obtain ⟨rfl, e9⟩ := q; have e9 := e9.symm; subst e9
  change mi_WX _ pP X kX9_read 4 0 0 79 [(0, .ref M), (1, .int (nI k))] [.int 2] (mi_set h M (.inr (9, [.int 0, .ref (M + 1), .ref (M + 2), .ref (M + 3), .ref (M + 4), .int 0, .int 0, .int 0, .int 4, .ref (M + 5), .int (nI (hd_b k)), .double (FP.dadd (FP.dadd 0 (dr_sk 0 k)) (sp_step k)), .int 1, .int 0, .int 0]))) _
  exact mi_ret_i okX9_read rfl rfl rfl ⟨rfl, mp.set (0, 0, 0, 4, (nI (hd_b k)), FP.dadd (FP.dadd 0 (dr_sk 0 k)) (sp_step k), 1, 0, 0)⟩
