-- PitHouse$Spiral and PitHouse$Drive
def mi_X23 (X : mi_X) : Prop := ((X 2).1 = 3 ∧ (X 3).1 = 3) ∧ (∀ j, j < 3 → (X 2).2 j = [6, 8, 10].getD j 0) ∧ ∀ j, j < 3 → (X 3).2 j = [0, 60, 140].getD j 0
theorem sp_z_in (s : Int32) : vp_in (sp_z s) 3 := by
  unfold sp_z
  split
  · exact vp_in_lt (n := 0) (by decide) (by decide)
  · split
    · exact vp_in_lt (n := 1) (by decide) (by decide)
    · exact vp_in_lt (n := 2) (by decide) (by decide)
theorem sp_f_at {X : mi_X} (hX : mi_X23 X) (s : Int32) : (X 3).2 (sp_z s).toNatClampNeg = sp_f s := by
  unfold sp_z sp_f
  split
  · exact hX.2.2 0 (by decide)
  · split
    · exact hX.2.2 1 (by decide)
    · exact hX.2.2 2 (by decide)
theorem sp_m_at {X : mi_X} (hX : mi_X23 X) (s : Int32) : (X 2).2 (sp_z s).toNatClampNeg = sp_m s := by
  unfold sp_z sp_m
  split
  · exact hX.2.1 0 (by decide)
  · split
    · exact hX.2.1 1 (by decide)
    · exact hX.2.1 2 (by decide)
theorem sp_m_ne (s : Int32) : ¬ sp_m s = 0 := by
  unfold sp_m
  split
  · decide
  · split <;> decide
set_option maxHeartbeats 4000000 in
set_option maxRecDepth 100000 in
theorem c_zoneOf {X : mi_X} (hX : mi_X23 X) {h : mi_H} {s : Int32} : mi_S pP X kX6_zoneOf 0 [.int s] h 0 0 (fun r h1 => r = some (.int (sp_z s)) ∧ h1 = h) := by
  refine enX6_zoneOf (Nat.le_of_ble_eq_true rfl) ?_
  refine mi_blk okX6_zoneOf 1 (pc' := 1) (lv' := [(0, .int s)]) (st' := [.int s]) rfl ?_
  refine mi_gets okX6_zoneOf (a := 3) rfl (List.mem_of_getElem? (i := 2) rfl) sl_RX6_7 ?_
  refine mi_blk okX6_zoneOf 1 (pc' := 5) (lv' := [(0, .int s)]) (st' := [.int 1, .ref 3, .int s]) rfl ?_
  refine mi_xld okX6_zoneOf (a := 3) (i := 1) rfl (by decide) (by rw [hX.1.2]; exact vp_in_lt (n := 1) (by decide) (by decide)) ?_
  rw [show (X 3).2 (1 : Int32).toNatClampNeg = 60 from hX.2.2 1 (by decide)]
  refine mi_ic_ge okX6_zoneOf rfl rfl (fun c_6 => ?_) (fun c_6 => ?_)
  · refine mi_blk okX6_zoneOf 1 (pc' := 12) (lv' := [(0, .int s)]) (st' := [.int s]) rfl ?_
    refine mi_gets okX6_zoneOf (a := 3) rfl (List.mem_of_getElem? (i := 2) rfl) sl_RX6_7 ?_
    refine mi_blk okX6_zoneOf 1 (pc' := 16) (lv' := [(0, .int s)]) (st' := [.int 2, .ref 3, .int s]) rfl ?_
    refine mi_xld okX6_zoneOf (a := 3) (i := 2) rfl (by decide) (by rw [hX.1.2]; exact vp_in_lt (n := 2) (by decide) (by decide)) ?_
    rw [show (X 3).2 (2 : Int32).toNatClampNeg = 140 from hX.2.2 2 (by decide)]
    refine mi_ic_ge okX6_zoneOf rfl rfl (fun c_17 => ?_) (fun c_17 => ?_)
    · refine mi_blk okX6_zoneOf 1 (pc' := 25) (lv' := [(0, .int s)]) (st' := [.int 2]) rfl ?_
      exact mi_ret_i okX6_zoneOf rfl rfl rfl ⟨by rw [sp_z, if_neg (mi_le_nlt c_6), if_neg (mi_le_nlt c_17)], rfl⟩
    · refine mi_blk okX6_zoneOf 2 (pc' := 25) (lv' := [(0, .int s)]) (st' := [.int 1]) rfl ?_
      exact mi_ret_i okX6_zoneOf rfl rfl rfl ⟨by rw [sp_z, if_neg (mi_le_nlt c_6), if_pos (mi_nle_lt c_17)], rfl⟩
  · refine mi_blk okX6_zoneOf 1 (pc' := 10) (lv' := [(0, .int s)]) (st' := [.int 0]) rfl ?_
    exact mi_ret_i okX6_zoneOf rfl rfl rfl ⟨by rw [sp_z, if_pos (mi_nle_lt c_6)], rfl⟩
set_option maxHeartbeats 4000000 in
set_option maxRecDepth 100000 in
theorem c_turnOf {X : mi_X} (hX : mi_X23 X) {h : mi_H} {s : Int32} : mi_S pP X kX6_turnOf 1 [.int s] h 0 0 (fun r h1 => r = some (.int (sp_turn s)) ∧ h1 = h) := by
  refine enX6_turnOf (Nat.le_of_ble_eq_true rfl) ?_
  refine mi_blk okX6_turnOf 1 (pc' := 1) (lv' := [(0, .int s)]) (st' := [.int s]) rfl ?_
  refine mi_callS okX6_turnOf (mc := 0) (ms := 0) (mc' := 0) (ms' := 0) (As := [.int s]) (st := []) rfl cs_RX6_13 rfl (by decide) (Nat.le_of_ble_eq_true rfl) (c_zoneOf hX) (fun r h1 q => ?_)
  obtain ⟨rfl, e9⟩ := q; have e9 := e9.symm; subst e9
  change mi_W pP X kX6_turnOf 1 0 0 4 [(0, .int s)] [.int (sp_z s)] h _
  refine mi_blk okX6_turnOf 5 (pc' := 10) (lv' := [(1, .int (sp_z s)), (0, .int s)]) (st' := [.int s, .int ((sp_z s) * 10)]) rfl ?_
  refine mi_gets okX6_turnOf (a := 3) rfl (List.mem_of_getElem? (i := 2) rfl) sl_RX6_7 ?_
  refine mi_blk okX6_turnOf 1 (pc' := 14) (lv' := [(1, .int (sp_z s)), (0, .int s)]) (st' := [.int (sp_z s), .ref 3, .int s, .int ((sp_z s) * 10)]) rfl ?_
  refine mi_xld okX6_turnOf (a := 3) (i := (sp_z s)) rfl (by decide) (by rw [hX.1.2]; exact sp_z_in _) ?_
  rw [sp_f_at hX]
  refine mi_blk okX6_turnOf 1 (pc' := 16) (lv' := [(1, .int (sp_z s)), (0, .int s)]) (st' := [.int (s - (sp_f s)), .int ((sp_z s) * 10)]) rfl ?_
  refine mi_gets okX6_turnOf (a := 2) rfl (List.mem_of_getElem? (i := 1) rfl) sl_RX6_17 ?_
  refine mi_blk okX6_turnOf 1 (pc' := 20) (lv' := [(1, .int (sp_z s)), (0, .int s)]) (st' := [.int (sp_z s), .ref 2, .int (s - (sp_f s)), .int ((sp_z s) * 10)]) rfl ?_
  refine mi_xld okX6_turnOf (a := 2) (i := (sp_z s)) rfl (by decide) (by rw [hX.1.1]; exact sp_z_in _) ?_
  rw [sp_m_at hX]
  refine mi_idiv okX6_turnOf rfl (sp_m_ne s) ?_
  refine mi_blk okX6_turnOf 1 (pc' := 23) (lv' := [(1, .int (sp_z s)), (0, .int s)]) (st' := [.int (((sp_z s) * 10) + ((s - (sp_f s)) / (sp_m s)))]) rfl ?_
  exact mi_ret_i okX6_turnOf rfl rfl rfl ⟨rfl, rfl⟩
set_option maxHeartbeats 4000000 in
set_option maxRecDepth 100000 in
theorem c_angleOf {X : mi_X} (hX : mi_X23 X) {h : mi_H} {k : Nat} (hk : k < 240) : mi_S pP X kX6_angleOf 1 [.int (nI k)] h 0 0 (fun r h1 => r = some (.double (sp_ang (nI k))) ∧ h1 = h) := by
  refine enX6_angleOf (Nat.le_of_ble_eq_true rfl) ?_
  refine mi_blk okX6_angleOf 1 (pc' := 1) (lv' := [(0, .int (nI k))]) (st' := [.int (nI k)]) rfl ?_
  refine mi_callS okX6_angleOf (mc := 0) (ms := 0) (mc' := 0) (ms' := 0) (As := [.int (nI k)]) (st := []) rfl cs_RX6_13 rfl (by decide) (Nat.le_of_ble_eq_true rfl) (c_zoneOf hX) (fun r h1 q => ?_)
  obtain ⟨rfl, e9⟩ := q; have e9 := e9.symm; subst e9
  change mi_W pP X kX6_angleOf 1 0 0 4 [(0, .int (nI k))] [.int (sp_z (nI k))] h _
  refine mi_blk okX6_angleOf 2 (pc' := 6) (lv' := [(1, .int (sp_z (nI k))), (0, .int (nI k))]) (st' := [.int (nI k)]) rfl ?_
  refine mi_gets okX6_angleOf (a := 3) rfl (List.mem_of_getElem? (i := 2) rfl) sl_RX6_7 ?_
  refine mi_blk okX6_angleOf 1 (pc' := 10) (lv' := [(1, .int (sp_z (nI k))), (0, .int (nI k))]) (st' := [.int (sp_z (nI k)), .ref 3, .int (nI k)]) rfl ?_
  refine mi_xld okX6_angleOf (a := 3) (i := (sp_z (nI k))) rfl (by decide) (by rw [hX.1.2]; exact sp_z_in _) ?_
  rw [sp_f_at hX]
  refine mi_blk okX6_angleOf 1 (pc' := 12) (lv' := [(1, .int (sp_z (nI k))), (0, .int (nI k))]) (st' := [.int ((nI k) - (sp_f (nI k)))]) rfl ?_
  refine mi_gets okX6_angleOf (a := 2) rfl (List.mem_of_getElem? (i := 1) rfl) sl_RX6_17 ?_
  refine mi_blk okX6_angleOf 1 (pc' := 16) (lv' := [(1, .int (sp_z (nI k))), (0, .int (nI k))]) (st' := [.int (sp_z (nI k)), .ref 2, .int ((nI k) - (sp_f (nI k)))]) rfl ?_
  refine mi_xld okX6_angleOf (a := 2) (i := (sp_z (nI k))) rfl (by decide) (by rw [hX.1.1]; exact sp_z_in _) ?_
  rw [sp_m_at hX]
  refine mi_irem okX6_angleOf rfl (sp_m_ne (nI k)) ?_
  refine mi_blk okX6_angleOf 1 (pc' := 19) (lv' := [(2, .int (((nI k) - (sp_f (nI k))) - ((nI k) - (sp_f (nI k))) / (sp_m (nI k)) * (sp_m (nI k)))), (1, .int (sp_z (nI k))), (0, .int (nI k))]) (st' := []) rfl ?_
  change mi_W pP X kX6_angleOf 1 0 0 19 [(2, .int (sp_in (nI k))), (1, .int (sp_z (nI k))), (0, .int (nI k))] [] h _
  refine mi_blk okX6_angleOf 1 (pc' := 20) (lv' := [(2, .int (sp_in (nI k))), (1, .int (sp_z (nI k))), (0, .int (nI k))]) (st' := [.int (sp_in (nI k))]) rfl ?_
  refine mi_blk okX6_angleOf 1 (pc' := 21) (lv' := [(2, .int (sp_in (nI k))), (1, .int (sp_z (nI k))), (0, .int (nI k))]) (st' := [.double (FP.i2d (sp_in (nI k)))]) rfl ?_
  refine mi_ldc2d okX6_angleOf (v := (4645040803167600640 : UInt64)) rfl kc_RX6_20 ?_
  refine mi_dmul okX6_angleOf rfl (ang_ok hk).1 ?_
  refine mi_gets okX6_angleOf (a := 2) rfl (List.mem_of_getElem? (i := 1) rfl) sl_RX6_17 ?_
  refine mi_blk okX6_angleOf 1 (pc' := 29) (lv' := [(2, .int (sp_in (nI k))), (1, .int (sp_z (nI k))), (0, .int (nI k))]) (st' := [.int (sp_z (nI k)), .ref 2, .double (FP.dmul (FP.i2d (sp_in (nI k))) (4645040803167600640 : UInt64))]) rfl ?_
  refine mi_xld okX6_angleOf (a := 2) (i := (sp_z (nI k))) rfl (by decide) (by rw [hX.1.1]; exact sp_z_in _) ?_
  rw [sp_m_at hX]
  refine mi_blk okX6_angleOf 1 (pc' := 31) (lv' := [(2, .int (sp_in (nI k))), (1, .int (sp_z (nI k))), (0, .int (nI k))]) (st' := [.double (FP.i2d (sp_m (nI k))), .double (FP.dmul (FP.i2d (sp_in (nI k))) (4645040803167600640 : UInt64))]) rfl ?_
  refine mi_ddiv okX6_angleOf rfl (ang_ok hk).2.1 ?_
  exact mi_ret_d okX6_angleOf rfl rfl ⟨rfl, rfl⟩
set_option maxHeartbeats 4000000 in
set_option maxRecDepth 100000 in
theorem c_speedOf {X : mi_X} (hX : mi_X23 X) {h : mi_H} {s : Int32} : mi_S pP X kX6_speedOf 1 [.int s] h 0 0 (fun r h1 => r = some (.float (sp_spd s)) ∧ h1 = h) := by
  refine enX6_speedOf (Nat.le_of_ble_eq_true rfl) ?_
  refine mi_blk okX6_speedOf 1 (pc' := 1) (lv' := [(0, .int s)]) (st' := [.int s]) rfl ?_
  refine mi_callS okX6_speedOf (mc := 0) (ms := 0) (mc' := 0) (ms' := 0) (As := [.int s]) (st := []) rfl cs_RX6_13 rfl (by decide) (Nat.le_of_ble_eq_true rfl) (c_zoneOf hX) (fun r h1 q => ?_)
  obtain ⟨rfl, e9⟩ := q; have e9 := e9.symm; subst e9
  change mi_W pP X kX6_speedOf 1 0 0 4 [(0, .int s)] [.int (sp_z s)] h _
  refine mi_blk okX6_speedOf 2 (pc' := 6) (lv' := [(1, .int (sp_z s)), (0, .int s)]) (st' := [.int (sp_z s)]) rfl ?_
  refine mi_if_ne okX6_speedOf rfl rfl (fun c_6 => ?_) (fun c_6 => ?_)
  · refine mi_blk okX6_speedOf 2 (pc' := 13) (lv' := [(1, .int (sp_z s)), (0, .int s)]) (st' := [.int 1, .int (sp_z s)]) rfl ?_
    refine mi_ic_ne okX6_speedOf rfl rfl (fun c_13 => ?_) (fun c_13 => ?_)
    · refine mi_ldcf okX6_speedOf (v := (1069547520 : UInt32)) rfl kc_RX6_23 ?_
      exact mi_ret_f okX6_speedOf rfl rfl ⟨by rw [sp_spd, if_neg c_6, if_neg c_13], rfl⟩
    · refine mi_ldcf okX6_speedOf (v := (1067450368 : UInt32)) rfl kc_RX6_22 ?_
      refine mi_blk okX6_speedOf 1 (pc' := 23) (lv' := [(1, .int (sp_z s)), (0, .int s)]) (st' := [.float (1067450368 : UInt32)]) rfl ?_
      exact mi_ret_f okX6_speedOf rfl rfl ⟨by rw [sp_spd, if_neg c_6, if_pos c_13], rfl⟩
  · refine mi_blk okX6_speedOf 1 (pc' := 10) (lv' := [(1, .int (sp_z s)), (0, .int s)]) (st' := [.float FP.fconst1]) rfl ?_
    exact mi_ret_f okX6_speedOf rfl rfl ⟨by rw [sp_spd, if_pos c_6], rfl⟩
def sp_pos (s : Int32) : Int32 := 1000 * (s / 60 - s / 60 / 3 * 3) + 10 * (s / 5 - s / 5 / 12 * 12) + (s - s / 5 * 5)
set_option maxHeartbeats 4000000 in
set_option maxRecDepth 100000 in
theorem c_positionOf {X : mi_X} {h : mi_H} {s : Int32} : mi_S pP X kX6_positionOf 0 [.int s] h 0 0 (fun r h1 => r = some (.int (sp_pos s)) ∧ h1 = h) := by
  refine enX6_positionOf (Nat.le_of_ble_eq_true rfl) ?_
  refine mi_blk okX6_positionOf 2 (pc' := 3) (lv' := [(0, .int s)]) (st' := [.int 60, .int s]) rfl ?_
  refine mi_idiv okX6_positionOf rfl (by decide) ?_
  refine mi_blk okX6_positionOf 1 (pc' := 5) (lv' := [(0, .int s)]) (st' := [.int 3, .int (s / 60)]) rfl ?_
  refine mi_irem okX6_positionOf rfl (by decide) ?_
  refine mi_blk okX6_positionOf 3 (pc' := 9) (lv' := [(1, .int ((s / 60) - (s / 60) / 3 * 3)), (0, .int s)]) (st' := [.int 5, .int s]) rfl ?_
  refine mi_idiv okX6_positionOf rfl (by decide) ?_
  refine mi_blk okX6_positionOf 1 (pc' := 12) (lv' := [(1, .int ((s / 60) - (s / 60) / 3 * 3)), (0, .int s)]) (st' := [.int 12, .int (s / 5)]) rfl ?_
  refine mi_irem okX6_positionOf rfl (by decide) ?_
  refine mi_blk okX6_positionOf 10 (pc' := 26) (lv' := [(2, .int ((s / 5) - (s / 5) / 12 * 12)), (1, .int ((s / 60) - (s / 60) / 3 * 3)), (0, .int s)]) (st' := [.int 5, .int s, .int ((1000 * ((s / 60) - (s / 60) / 3 * 3)) + (10 * ((s / 5) - (s / 5) / 12 * 12)))]) rfl ?_
  refine mi_irem okX6_positionOf rfl (by decide) ?_
  refine mi_blk okX6_positionOf 1 (pc' := 28) (lv' := [(2, .int ((s / 5) - (s / 5) / 12 * 12)), (1, .int ((s / 60) - (s / 60) / 3 * 3)), (0, .int s)]) (st' := [.int (((1000 * ((s / 60) - (s / 60) / 3 * 3)) + (10 * ((s / 5) - (s / 5) / 12 * 12))) + (s - s / 5 * 5))]) rfl ?_
  exact mi_ret_i okX6_positionOf rfl rfl rfl ⟨rfl, rfl⟩
theorem dr_ct_ok {d : Nat} (hd : d < 30) : vf_n64 (FP.dmul 4598175219545276416 (FP.i2d (nI d))) ∧ vf_n64 (dr_t (nI d)) ∧ vf_n64 (FP.dmul 4636033603912859648 (dr_t (nI d))) := by
  have h := List.all_eq_true.mp dr_tb d (List.mem_range.mpr hd)
  unfold dr_ct at h
  rw [Bool.and_eq_true, Bool.and_eq_true] at h
  exact ⟨n64_ok h.1, n64_ok h.2.1, n64_ok h.2.2⟩
theorem dr_cs_ok {x : UInt64} (hx : x ∈ sp_difs) {d : Nat} (hd : d < 30) : vf_n64 (dr_a x (dr_t (nI d))) ∧ dr_cr (dr_a x (dr_t (nI d))) = true ∧ vf_n64 (FP.ddiv (dr_r (dr_a x (dr_t (nI d)))) 4636033603912859648) ∧ vf_n64 (dr_s x (nI d)) ∧ dr_s x (nI d) ≤ 4624070917402656768 := by
  have h := List.all_eq_true.mp (List.all_eq_true.mp dr_sb x hx) d (List.mem_range.mpr hd)
  unfold dr_cs at h
  rw [Bool.and_eq_true, Bool.and_eq_true, Bool.and_eq_true, Bool.and_eq_true] at h
  exact ⟨n64_ok h.1, h.2.1, n64_ok h.2.2.1, n64_ok h.2.2.2.1, of_decide_eq_true h.2.2.2.2⟩
theorem dr_cr_ok {a : UInt64} (h : dr_cr a = true) : vf_n64 (FP.ddiv a 4645040803167600640) ∧ vf_n64 (FP.dmul 4645040803167600640 (FP.i2d (FP.d2i (FP.ddiv a 4645040803167600640)))) ∧ vf_n64 (dr_r0 a) ∧ vf_n64 (FP.dadd (dr_r0 a) 4645040803167600640) := by
  unfold dr_cr at h
  rw [Bool.and_eq_true, Bool.and_eq_true, Bool.and_eq_true] at h
  exact ⟨n64_ok h.1, n64_ok h.2.1, n64_ok h.2.2.1, n64_ok h.2.2.2⟩
set_option maxHeartbeats 4000000 in
set_option maxRecDepth 100000 in
theorem c_restOfTurn {X : mi_X} {h : mi_H} {x : UInt64} (hx : dr_cr x = true) : mi_S pP X kX2_restOfTurn 0 [.double x] h 0 0 (fun r h1 => r = some (.double (dr_r x)) ∧ h1 = h) := by
  refine enX2_restOfTurn (Nat.le_of_ble_eq_true rfl) ?_
  refine mi_blk okX2_restOfTurn 1 (pc' := 1) (lv' := [(0, .double x)]) (st' := [.double x]) rfl ?_
  refine mi_ldc2d okX2_restOfTurn (v := (4645040803167600640 : UInt64)) rfl kc_RX2_54 ?_
  refine mi_blk okX2_restOfTurn 1 (pc' := 5) (lv' := [(0, .double x)]) (st' := [.double x, .double (4645040803167600640 : UInt64), .double x]) rfl ?_
  refine mi_ldc2d okX2_restOfTurn (v := (4645040803167600640 : UInt64)) rfl kc_RX2_54 ?_
  refine mi_ddiv okX2_restOfTurn rfl (dr_cr_ok hx).1 ?_
  refine mi_blk okX2_restOfTurn 2 (pc' := 11) (lv' := [(0, .double x)]) (st' := [.double (FP.i2d (FP.d2i (FP.ddiv x (4645040803167600640 : UInt64)))), .double (4645040803167600640 : UInt64), .double x]) rfl ?_
  refine mi_dmul okX2_restOfTurn rfl (dr_cr_ok hx).2.1 ?_
  refine mi_dsub okX2_restOfTurn rfl (dr_cr_ok hx).2.2.1 ?_
  refine mi_blk okX2_restOfTurn 1 (pc' := 14) (lv' := [(2, .double (FP.dsub x (FP.dmul (4645040803167600640 : UInt64) (FP.i2d (FP.d2i (FP.ddiv x (4645040803167600640 : UInt64))))))), (0, .double x)]) (st' := []) rfl ?_
  change mi_W pP X kX2_restOfTurn 0 0 0 14 [(2, .double (dr_r0 x)), (0, .double x)] [] h _
  refine mi_blk okX2_restOfTurn 1 (pc' := 15) (lv' := [(2, .double (dr_r0 x)), (0, .double x)]) (st' := [.double (dr_r0 x)]) rfl ?_
  refine mi_blk okX2_restOfTurn 2 (pc' := 17) (lv' := [(2, .double (dr_r0 x)), (0, .double x)]) (st' := [.int (Op.cmpValue (FP.dcmp (dr_r0 x) FP.dconst0) .g)]) rfl ?_
  refine mi_if_ge okX2_restOfTurn rfl rfl (fun c_17 => ?_) (fun c_17 => ?_)
  · refine mi_blk okX2_restOfTurn 1 (pc' := 29) (lv' := [(2, .double (dr_r0 x)), (0, .double x)]) (st' := [.double (dr_r0 x)]) rfl ?_
    exact mi_ret_d okX2_restOfTurn rfl rfl ⟨by rw [dr_r, if_pos c_17], rfl⟩
  · refine mi_blk okX2_restOfTurn 1 (pc' := 21) (lv' := [(2, .double (dr_r0 x)), (0, .double x)]) (st' := [.double (dr_r0 x)]) rfl ?_
    refine mi_ldc2d okX2_restOfTurn (v := (4645040803167600640 : UInt64)) rfl kc_RX2_54 ?_
    refine mi_dadd okX2_restOfTurn rfl (dr_cr_ok hx).2.2.2 ?_
    refine mi_blk okX2_restOfTurn 1 (pc' := 29) (lv' := [(2, .double (dr_r0 x)), (0, .double x)]) (st' := [.double (FP.dadd (dr_r0 x) (4645040803167600640 : UInt64))]) rfl ?_
    exact mi_ret_d okX2_restOfTurn rfl rfl ⟨by rw [dr_r, if_neg c_17], rfl⟩
def dr_d (i j : Nat) : Nat := sp_ap (sp_tn j) (sp_tn i)
def dr_x (i j : Nat) : UInt64 := FP.dsub (sp_ang (nI j)) (sp_ang (nI i))
/-- how long a way is -/
def dr_sk (i j : Nat) : UInt64 := if i = j then FP.dconst0 else dr_s (dr_x i j) (nI (dr_d i j))
theorem dr_d_lt {i j : Nat} (hi : i < 240) (hj : j < 240) : dr_d i j < 30 := (ap_ok (tn_ok hj).2 (tn_ok hi).2).2
theorem dr_x_in {i j : Nat} (hi : i < 240) (hj : j < 240) : vf_n64 (dr_x i j) ∧ dr_x i j ∈ sp_difs := dif_ok (ang_ok hj).2.2 (ang_ok hi).2.2
theorem dr_abs {i j : Nat} (hi : i < 240) (hj : j < 240) : (if 0 ≤ sp_turn (nI j) - sp_turn (nI i) then sp_turn (nI j) - sp_turn (nI i) else 0 - (sp_turn (nI j) - sp_turn (nI i))) = nI (dr_d i j) := by
  rw [(tn_ok hi).1, (tn_ok hj).1]
  exact (ap_ok (tn_ok hj).2 (tn_ok hi).2).1
theorem nI_inj {a b : Nat} (ha : a < 2147483648) (hb : b < 2147483648) (h : nI a = nI b) : a = b := by
  have h1 := nI_toInt ha
  have h2 := nI_toInt hb
  rw [h, h2] at h1
  omega
set_option maxHeartbeats 4000000 in
set_option maxRecDepth 100000 in
theorem c_seekTime {X : mi_X} (hX : mi_X23 X) {h : mi_H} {i j : Nat} (hi : i < 240) (hj : j < 240) : mi_S pP X kX2_seekTime 2 [.int (nI i), .int (nI j)] h 0 0 (fun r h1 => r = some (.double (dr_sk i j)) ∧ h1 = h) := by
  refine enX2_seekTime (Nat.le_of_ble_eq_true rfl) ?_
  refine mi_blk okX2_seekTime 2 (pc' := 2) (lv' := [(0, .int (nI i)), (1, .int (nI j))]) (st' := [.int (nI j), .int (nI i)]) rfl ?_
  refine mi_ic_ne okX2_seekTime rfl rfl (fun c_2 => ?_) (fun c_2 => ?_)
  · refine mi_ldc2d okX2_seekTime (v := (4611686018427387904 : UInt64)) rfl kc_RX2_29 ?_
    refine mi_ldc2d okX2_seekTime (v := (4598175219545276416 : UInt64)) rfl kc_RX2_31 ?_
    refine mi_blk okX2_seekTime 1 (pc' := 14) (lv' := [(0, .int (nI i)), (1, .int (nI j))]) (st' := [.int (nI j), .double (4598175219545276416 : UInt64), .double (4611686018427387904 : UInt64)]) rfl ?_
    refine mi_callS okX2_seekTime (mc := 0) (ms := 0) (mc' := 0) (ms' := 0) (As := [.int (nI j)]) (st := [.double (4598175219545276416 : UInt64), .double (4611686018427387904 : UInt64)]) rfl cs_RX2_33 rfl (by decide) (Nat.le_of_ble_eq_true rfl) (c_turnOf hX) (fun r h1 q => ?_)
    obtain ⟨rfl, e9⟩ := q; have e9 := e9.symm; subst e9
    change mi_W pP X kX2_seekTime 2 0 0 17 [(0, .int (nI i)), (1, .int (nI j))] [.int (sp_turn (nI j)), .double (4598175219545276416 : UInt64), .double (4611686018427387904 : UInt64)] h _
    refine mi_blk okX2_seekTime 1 (pc' := 18) (lv' := [(0, .int (nI i)), (1, .int (nI j))]) (st' := [.int (nI i), .int (sp_turn (nI j)), .double (4598175219545276416 : UInt64), .double (4611686018427387904 : UInt64)]) rfl ?_
    refine mi_callS okX2_seekTime (mc := 0) (ms := 0) (mc' := 0) (ms' := 0) (As := [.int (nI i)]) (st := [.int (sp_turn (nI j)), .double (4598175219545276416 : UInt64), .double (4611686018427387904 : UInt64)]) rfl cs_RX2_33 rfl (by decide) (Nat.le_of_ble_eq_true rfl) (c_turnOf hX) (fun r h1 q => ?_)
    obtain ⟨rfl, e9⟩ := q; have e9 := e9.symm; subst e9
    change mi_W pP X kX2_seekTime 2 0 0 21 [(0, .int (nI i)), (1, .int (nI j))] [.int (sp_turn (nI i)), .int (sp_turn (nI j)), .double (4598175219545276416 : UInt64), .double (4611686018427387904 : UInt64)] h _
    refine mi_blk okX2_seekTime 1 (pc' := 22) (lv' := [(0, .int (nI i)), (1, .int (nI j))]) (st' := [.int ((sp_turn (nI j)) - (sp_turn (nI i))), .double (4598175219545276416 : UInt64), .double (4611686018427387904 : UInt64)]) rfl ?_
    refine mi_abs okX2_seekTime rfl mm_RX2_39 ms_abs mz_Math mc_abs (by decide) (Nat.le_of_ble_eq_true rfl) ?_
    rw [dr_abs hi hj]
    refine mi_blk okX2_seekTime 1 (pc' := 26) (lv' := [(0, .int (nI i)), (1, .int (nI j))]) (st' := [.double (FP.i2d (nI (dr_d i j))), .double (4598175219545276416 : UInt64), .double (4611686018427387904 : UInt64)]) rfl ?_
    refine mi_dmul okX2_seekTime rfl (dr_ct_ok (dr_d_lt hi hj)).1 ?_
    refine mi_dadd okX2_seekTime rfl (dr_ct_ok (dr_d_lt hi hj)).2.1 ?_
    refine mi_blk okX2_seekTime 1 (pc' := 29) (lv' := [(2, .double (FP.dadd (4611686018427387904 : UInt64) (FP.dmul (4598175219545276416 : UInt64) (FP.i2d (nI (dr_d i j)))))), (0, .int (nI i)), (1, .int (nI j))]) (st' := []) rfl ?_
    change mi_W pP X kX2_seekTime 2 0 0 29 [(2, .double (dr_t (nI (dr_d i j)))), (0, .int (nI i)), (1, .int (nI j))] [] h _
    refine mi_blk okX2_seekTime 1 (pc' := 30) (lv' := [(2, .double (dr_t (nI (dr_d i j)))), (0, .int (nI i)), (1, .int (nI j))]) (st' := [.int (nI j)]) rfl ?_
    refine mi_callS okX2_seekTime (mc := 0) (ms := 0) (mc' := 0) (ms' := 0) (As := [.int (nI j)]) (st := []) rfl cs_RX2_44 rfl (by decide) (Nat.le_of_ble_eq_true rfl) (c_angleOf hX hj) (fun r h1 q => ?_)
    obtain ⟨rfl, e9⟩ := q; have e9 := e9.symm; subst e9
    change mi_W pP X kX2_seekTime 2 0 0 33 [(2, .double (dr_t (nI (dr_d i j)))), (0, .int (nI i)), (1, .int (nI j))] [.double (sp_ang (nI j))] h _
    refine mi_blk okX2_seekTime 1 (pc' := 34) (lv' := [(2, .double (dr_t (nI (dr_d i j)))), (0, .int (nI i)), (1, .int (nI j))]) (st' := [.int (nI i), .double (sp_ang (nI j))]) rfl ?_
    refine mi_callS okX2_seekTime (mc := 0) (ms := 0) (mc' := 0) (ms' := 0) (As := [.int (nI i)]) (st := [.double (sp_ang (nI j))]) rfl cs_RX2_44 rfl (by decide) (Nat.le_of_ble_eq_true rfl) (c_angleOf hX hi) (fun r h1 q => ?_)
    obtain ⟨rfl, e9⟩ := q; have e9 := e9.symm; subst e9
    change mi_W pP X kX2_seekTime 2 0 0 37 [(2, .double (dr_t (nI (dr_d i j)))), (0, .int (nI i)), (1, .int (nI j))] [.double (sp_ang (nI i)), .double (sp_ang (nI j))] h _
    refine mi_dsub okX2_seekTime rfl (dr_x_in hi hj).1 ?_
    refine mi_ldc2d okX2_seekTime (v := (4636033603912859648 : UInt64)) rfl kc_RX2_48 ?_
    refine mi_blk okX2_seekTime 1 (pc' := 42) (lv' := [(2, .double (dr_t (nI (dr_d i j)))), (0, .int (nI i)), (1, .int (nI j))]) (st' := [.double (dr_t (nI (dr_d i j))), .double (4636033603912859648 : UInt64), .double (FP.dsub (sp_ang (nI j)) (sp_ang (nI i)))]) rfl ?_
    refine mi_dmul okX2_seekTime rfl (dr_ct_ok (dr_d_lt hi hj)).2.2 ?_
    refine mi_dsub okX2_seekTime rfl (dr_cs_ok (dr_x_in hi hj).2 (dr_d_lt hi hj)).1 ?_
    refine mi_blk okX2_seekTime 1 (pc' := 46) (lv' := [(4, .double (FP.dsub (FP.dsub (sp_ang (nI j)) (sp_ang (nI i))) (FP.dmul (4636033603912859648 : UInt64) (dr_t (nI (dr_d i j)))))), (2, .double (dr_t (nI (dr_d i j)))), (0, .int (nI i)), (1, .int (nI j))]) (st' := []) rfl ?_
    change mi_W pP X kX2_seekTime 2 0 0 46 [(4, .double (dr_a (dr_x i j) (dr_t (nI (dr_d i j))))), (2, .double (dr_t (nI (dr_d i j)))), (0, .int (nI i)), (1, .int (nI j))] [] h _
    refine mi_blk okX2_seekTime 1 (pc' := 47) (lv' := [(4, .double (dr_a (dr_x i j) (dr_t (nI (dr_d i j))))), (2, .double (dr_t (nI (dr_d i j)))), (0, .int (nI i)), (1, .int (nI j))]) (st' := [.double (dr_t (nI (dr_d i j)))]) rfl ?_
    refine mi_blk okX2_seekTime 1 (pc' := 49) (lv' := [(4, .double (dr_a (dr_x i j) (dr_t (nI (dr_d i j))))), (2, .double (dr_t (nI (dr_d i j)))), (0, .int (nI i)), (1, .int (nI j))]) (st' := [.double (dr_a (dr_x i j) (dr_t (nI (dr_d i j)))), .double (dr_t (nI (dr_d i j)))]) rfl ?_
    refine mi_callS okX2_seekTime (mc := 0) (ms := 0) (mc' := 0) (ms' := 0) (As := [.double (dr_a (dr_x i j) (dr_t (nI (dr_d i j))))]) (st := [.double (dr_t (nI (dr_d i j)))]) rfl cs_RX2_50 rfl (by decide) (Nat.le_of_ble_eq_true rfl) (c_restOfTurn (dr_cs_ok (dr_x_in hi hj).2 (dr_d_lt hi hj)).2.1) (fun r h1 q => ?_)
    obtain ⟨rfl, e9⟩ := q; have e9 := e9.symm; subst e9
    change mi_W pP X kX2_seekTime 2 0 0 52 [(4, .double (dr_a (dr_x i j) (dr_t (nI (dr_d i j))))), (2, .double (dr_t (nI (dr_d i j)))), (0, .int (nI i)), (1, .int (nI j))] [.double (dr_r (dr_a (dr_x i j) (dr_t (nI (dr_d i j))))), .double (dr_t (nI (dr_d i j)))] h _
    refine mi_ldc2d okX2_seekTime (v := (4636033603912859648 : UInt64)) rfl kc_RX2_48 ?_
    refine mi_ddiv okX2_seekTime rfl (dr_cs_ok (dr_x_in hi hj).2 (dr_d_lt hi hj)).2.2.1 ?_
    refine mi_dadd okX2_seekTime rfl (dr_cs_ok (dr_x_in hi hj).2 (dr_d_lt hi hj)).2.2.2.1 ?_
    exact mi_ret_d okX2_seekTime rfl rfl ⟨by rw [dr_sk, if_neg (fun z => c_2 (by rw [z]))]; rfl, rfl⟩
  · refine mi_blk okX2_seekTime 1 (pc' := 6) (lv' := [(0, .int (nI i)), (1, .int (nI j))]) (st' := [.double FP.dconst0]) rfl ?_
    exact mi_ret_d okX2_seekTime rfl rfl ⟨by rw [dr_sk, if_pos (nI_inj (by omega) (by omega) c_2)], rfl⟩
def sp_step (j : Nat) : UInt64 := FP.ddiv 4602678819172646912 (FP.f2d (sp_spd (nI j)))
theorem step_ok (j : Nat) : vf_n64 (FP.f2d (sp_spd (nI j))) ∧ vf_n64 (sp_step j) := by
  unfold sp_step sp_spd
  split
  · exact ⟨n64_ok (by decide +kernel), n64_ok (by decide +kernel)⟩
  · split
    · exact ⟨n64_ok (by decide +kernel), n64_ok (by decide +kernel)⟩
    · exact ⟨n64_ok (by decide +kernel), n64_ok (by decide +kernel)⟩
/-- the CLOCK behind a READ of j, as the head was ahead of i -/
def dr_cb (x : UInt64) (i j : Nat) : UInt64 := FP.dadd (FP.dadd x (dr_sk i j)) (sp_step j)
def dr_okc (x : UInt64) (i j : Nat) : Prop := vf_n64 (FP.dadd x (dr_sk i j)) ∧ vf_n64 (dr_cb x i j)
def hd_b (j : Nat) : Nat := if 239 < j + 1 then 239 else j + 1
set_option maxRecDepth 100000 in
theorem hd_t : (List.range 240).all (fun j => decide ((if (239 : Int32) < nI j + 1 then (239 : Int32) else nI j + 1) = nI (hd_b j)) && decide (hd_b j < 240)) = true := by decide +kernel
theorem hd_ok {j : Nat} (hj : j < 240) : (if (239 : Int32) < nI j + 1 then (239 : Int32) else nI j + 1) = nI (hd_b j) ∧ hd_b j < 240 := by
  have h := List.all_eq_true.mp hd_t j (List.mem_range.mpr hj)
  rw [Bool.and_eq_true] at h
  exact ⟨of_decide_eq_true h.1, of_decide_eq_true h.2⟩
abbrev dv_c (i : Nat) (x : UInt64) (r t f : Int32) : mi_C := .inr (3, [.int (nI i), .double x, .int r, .int t, .int f])
set_option maxHeartbeats 4000000 in
set_option maxRecDepth 100000 in
theorem c_clockBehind {X : mi_X} (hX : mi_X23 X) {h : mi_H} {i j : Nat} (hi : i < 240) (hj : j < 240) {x : UInt64} (hx : dr_okc x i j) : mi_S pP X kX2_clockBehind 3 [.double x, .int (nI i), .int (nI j)] h 0 0 (fun r h1 => r = some (.double (dr_cb x i j)) ∧ h1 = h) := by
  refine enX2_clockBehind (Nat.le_of_ble_eq_true rfl) ?_
  refine mi_blk okX2_clockBehind 3 (pc' := 3) (lv' := [(0, .double x), (2, .int (nI i)), (3, .int (nI j))]) (st' := [.int (nI j), .int (nI i), .double x]) rfl ?_
  refine mi_callS okX2_clockBehind (mc := 0) (ms := 0) (mc' := 0) (ms' := 0) (As := [.int (nI i), .int (nI j)]) (st := [.double x]) rfl cs_RX2_56 rfl (by decide) (Nat.le_of_ble_eq_true rfl) (c_seekTime hX hi hj) (fun r h1 q => ?_)
  obtain ⟨rfl, e9⟩ := q; have e9 := e9.symm; subst e9
  change mi_W pP X kX2_clockBehind 3 0 0 6 [(0, .double x), (2, .int (nI i)), (3, .int (nI j))] [.double (dr_sk i j), .double x] h _
  refine mi_dadd okX2_clockBehind rfl hx.1 ?_
  refine mi_blk okX2_clockBehind 2 (pc' := 11) (lv' := [(4, .double (FP.dadd x (dr_sk i j))), (0, .double x), (2, .int (nI i)), (3, .int (nI j))]) (st' := [.double (FP.dadd x (dr_sk i j))]) rfl ?_
  refine mi_ldc2d okX2_clockBehind (v := (4602678819172646912 : UInt64)) rfl kc_RX2_60 ?_
  refine mi_blk okX2_clockBehind 1 (pc' := 15) (lv' := [(4, .double (FP.dadd x (dr_sk i j))), (0, .double x), (2, .int (nI i)), (3, .int (nI j))]) (st' := [.int (nI j), .double (4602678819172646912 : UInt64), .double (FP.dadd x (dr_sk i j))]) rfl ?_
  refine mi_callS okX2_clockBehind (mc := 0) (ms := 0) (mc' := 0) (ms' := 0) (As := [.int (nI j)]) (st := [.double (4602678819172646912 : UInt64), .double (FP.dadd x (dr_sk i j))]) rfl cs_RX2_62 rfl (by decide) (Nat.le_of_ble_eq_true rfl) (c_speedOf hX) (fun r h1 q => ?_)
  obtain ⟨rfl, e9⟩ := q; have e9 := e9.symm; subst e9
  change mi_W pP X kX2_clockBehind 3 0 0 18 [(4, .double (FP.dadd x (dr_sk i j))), (0, .double x), (2, .int (nI i)), (3, .int (nI j))] [.float (sp_spd (nI j)), .double (4602678819172646912 : UInt64), .double (FP.dadd x (dr_sk i j))] h _
  refine mi_f2d okX2_clockBehind rfl (step_ok j).1 ?_
  refine mi_ddiv okX2_clockBehind rfl (step_ok j).2 ?_
  refine mi_dadd okX2_clockBehind rfl hx.2 ?_
  exact mi_ret_d okX2_clockBehind rfl rfl ⟨rfl, rfl⟩
set_option maxHeartbeats 4000000 in
set_option maxRecDepth 100000 in
theorem c_headBehind {X : mi_X} {h : mi_H} {j : Nat} (hj : j < 240) : mi_S pP X kX2_headBehind 1 [.int (nI j)] h 0 0 (fun r h1 => r = some (.int (nI (hd_b j))) ∧ h1 = h) := by
  refine enX2_headBehind (Nat.le_of_ble_eq_true rfl) ?_
  refine mi_blk okX2_headBehind 4 (pc' := 6) (lv' := [(0, .int (nI j))]) (st' := [.int 239, .int ((nI j) + 1)]) rfl ?_
  refine mi_min okX2_headBehind rfl mm_RX2_66 ms_min mz_Math mc_min (by decide) (Nat.le_of_ble_eq_true rfl) ?_
  exact mi_ret_i okX2_headBehind rfl rfl rfl ⟨by rw [(hd_ok hj).1], rfl⟩
set_option maxHeartbeats 4000000 in
set_option maxRecDepth 100000 in
theorem c_passOver {X : mi_X} (hX : mi_X23 X) {h : mi_H} {i j : Nat} (hi : i < 240) (hj : j < 240) {a : Nat} {x : UInt64} {r0 t f : Int32} (hE : 6 ≤ a) (ha : a < h.1) (hc : h.2 a = dv_c i x r0 t f) (hx : dr_okc x i j) : mi_S pP X kX2_passOver 4 [.ref a, .int (nI j)] h 0 0 (fun r h1 => r = none ∧ h1 = mi_set h a (dv_c (hd_b j) (dr_cb x i j) (r0 + 1) t f)) := by
  refine enX2_passOver (Nat.le_of_ble_eq_true rfl) ?_
  refine mi_blk okX2_passOver 2 (pc' := 2) (lv' := [(0, .ref a), (1, .int (nI j))]) (st' := [.ref a, .ref a]) rfl ?_
  refine mi_getf okX2_passOver rfl fg_RX2_15 hE ha hc (v := .double x) rfl ?_
  refine mi_blk okX2_passOver 1 (pc' := 6) (lv' := [(0, .ref a), (1, .int (nI j))]) (st' := [.ref a, .double x, .ref a]) rfl ?_
  refine mi_getf okX2_passOver rfl fg_RX2_9 hE ha hc (v := .int (nI i)) rfl ?_
  refine mi_blk okX2_passOver 1 (pc' := 10) (lv' := [(0, .ref a), (1, .int (nI j))]) (st' := [.int (nI j), .int (nI i), .double x, .ref a]) rfl ?_
  refine mi_callS okX2_passOver (mc := 0) (ms := 0) (mc' := 0) (ms' := 0) (As := [.double x, .int (nI i), .int (nI j)]) (st := [.ref a]) rfl cs_RX2_70 rfl (by decide) (Nat.le_of_ble_eq_true rfl) (c_clockBehind hX hi hj hx) (fun r h1 q => ?_)
  obtain ⟨rfl, e9⟩ := q; have e9 := e9.symm; subst e9
  change mi_W pP X kX2_passOver 4 0 0 13 [(0, .ref a), (1, .int (nI j))] [.double (dr_cb x i j), .ref a] h _
  refine mi_putf' okX2_passOver rfl fd_RX2_15 hE ha hc (fs' := [.int (nI i), .double (dr_cb x i j), .int r0, .int t, .int f]) rfl (Nat.le_of_ble_eq_true rfl) rfl rfl ?_
  refine mi_blk okX2_passOver 2 (pc' := 18) (lv' := [(0, .ref a), (1, .int (nI j))]) (st' := [.int (nI j), .ref a]) rfl ?_
  refine mi_callS okX2_passOver (mc := 0) (ms := 0) (mc' := 0) (ms' := 0) (As := [.int (nI j)]) (st := [.ref a]) rfl cs_RX2_74 rfl (by decide) (Nat.le_of_ble_eq_true rfl) (c_headBehind hj) (fun r h1 q => ?_)
  obtain ⟨rfl, e9⟩ := q; have e9 := e9.symm; subst e9
  change mi_W pP X kX2_passOver 4 0 0 21 [(0, .ref a), (1, .int (nI j))] [.int (nI (hd_b j)), .ref a] (mi_set h a (.inr (3, [.int (nI i), .double (dr_cb x i j), .int r0, .int t, .int f]))) _
  refine mi_putf' okX2_passOver rfl fd_RX2_9 hE ha mi_set_self (fs' := [.int (nI (hd_b j)), .double (dr_cb x i j), .int r0, .int t, .int f]) rfl (Nat.le_of_ble_eq_true rfl) rfl rfl ?_
  rw [mi_set_set]
  refine mi_blk okX2_passOver 2 (pc' := 26) (lv' := [(0, .ref a), (1, .int (nI j))]) (st' := [.ref a, .ref a]) rfl ?_
  refine mi_getf okX2_passOver rfl fg_RX2_19 hE ha mi_set_self (v := .int r0) rfl ?_
  refine mi_blk okX2_passOver 2 (pc' := 31) (lv' := [(0, .ref a), (1, .int (nI j))]) (st' := [.int (r0 + 1), .ref a]) rfl ?_
  refine mi_putf' okX2_passOver rfl fd_RX2_19 hE ha mi_set_self (fs' := [.int (nI (hd_b j)), .double (dr_cb x i j), .int (r0 + 1), .int t, .int f]) rfl (Nat.le_of_ble_eq_true rfl) rfl rfl ?_
  rw [mi_set_set]
  exact mi_ret_v okX2_passOver rfl rfl ⟨rfl, rfl⟩
/-- READS one by one from f on: the CLOCK, and where the head is -/
def tv (x : UInt64) (i f : Nat) : Nat → UInt64 × Nat
  | 0 => (x, i)
  | n + 1 => (dr_cb (tv x i f n).1 (tv x i f n).2 (f + n), hd_b (f + n))
theorem tv_lt {x : UInt64} {i f : Nat} (hi : i < 240) : ∀ n, f + n ≤ 240 → (tv x i f n).2 < 240
  | 0, _ => hi
  | n + 1, h => (hd_ok (by omega)).2
set_option maxHeartbeats 4000000 in
set_option maxRecDepth 100000 in
theorem l_tv {X : mi_X} (hX : mi_X23 X) {h : mi_H} {i f m : Nat} (hi : i < 240) (hf : f + m ≤ 240) {a : Nat} {x : UInt64} {r0 t g : Int32} (hE : 6 ≤ a) (ha : a < h.1) (hc : h.2 a = dv_c i x r0 t g) (hx : ∀ q, q < m → dr_okc (tv x i f q).1 (tv x i f q).2 (f + q)) (hs : vf_n64 (FP.dsub (tv x i f m).1 x)) : ∀ (n q : Nat), q + n = m → mi_W pP X kX2_timeOver 4 0 0 14 [(6, .int (nI (f + q))), (5, .int (nI (tv x i f q).2)), (3, .double ((tv x i f q).1)), (0, .ref a), (1, .int (nI f)), (2, .int (nI (f + m)))] [] h (fun r h1 => r = some (.double (FP.dsub (tv x i f m).1 x)) ∧ h1 = h) := by
  intro n
  induction n with
  | zero =>
    intro q hq
    obtain rfl : m = q := by omega
    refine mi_blk okX2_timeOver 2 (pc' := 17) (lv' := [(6, .int (nI (f + m))), (5, .int (nI (tv x i f m).2)), (3, .double ((tv x i f m).1)), (0, .ref a), (1, .int (nI f)), (2, .int (nI (f + m)))]) (st' := [.int (nI (f + m)), .int (nI (f + m))]) rfl ?_
    refine mi_ic_ge okX2_timeOver rfl rfl (fun c_17 => ?_) (fun c_17 => absurd (nI_le (a := f + m) (b := f + m) (by omega) (by omega)) c_17)
    refine mi_blk okX2_timeOver 2 (pc' := 44) (lv' := [(6, .int (nI (f + m))), (5, .int (nI (tv x i f m).2)), (3, .double ((tv x i f m).1)), (0, .ref a), (1, .int (nI f)), (2, .int (nI (f + m)))]) (st' := [.ref a, .double ((tv x i f m).1)]) rfl ?_
    refine mi_getf okX2_timeOver rfl fg_RX2_15 hE ha hc (v := .double x) rfl ?_
    refine mi_dsub okX2_timeOver rfl hs ?_
    exact mi_ret_d okX2_timeOver rfl rfl ⟨rfl, rfl⟩
  | succ n ih =>
    intro q hq
    refine mi_blk okX2_timeOver 2 (pc' := 17) (lv' := [(6, .int (nI (f + q))), (5, .int (nI (tv x i f q).2)), (3, .double ((tv x i f q).1)), (0, .ref a), (1, .int (nI f)), (2, .int (nI (f + m)))]) (st' := [.int (nI (f + m)), .int (nI (f + q))]) rfl ?_
    refine mi_ic_ge okX2_timeOver rfl rfl (fun c_17 => absurd c_17 (nI_ge (a := f + q) (b := f + m) (by omega) (by omega))) (fun c_17 => ?_)
    refine mi_blk okX2_timeOver 3 (pc' := 25) (lv' := [(6, .int (nI (f + q))), (5, .int (nI (tv x i f q).2)), (3, .double ((tv x i f q).1)), (0, .ref a), (1, .int (nI f)), (2, .int (nI (f + m)))]) (st' := [.int (nI (f + q)), .int (nI (tv x i f q).2), .double ((tv x i f q).1)]) rfl ?_
    refine mi_callS okX2_timeOver (mc := 0) (ms := 0) (mc' := 0) (ms' := 0) (As := [.double ((tv x i f q).1), .int (nI (tv x i f q).2), .int (nI (f + q))]) (st := []) rfl cs_RX2_70 rfl (by decide) (Nat.le_of_ble_eq_true rfl) (c_clockBehind hX (tv_lt hi q (by omega)) (by omega) (hx q (by omega))) (fun r h1 q => ?_)
    obtain ⟨rfl, e9⟩ := q; have e9 := e9.symm; subst e9
    change mi_W pP X kX2_timeOver 4 0 0 28 [(6, .int (nI (f + q))), (5, .int (nI (tv x i f q).2)), (3, .double ((tv x i f q).1)), (0, .ref a), (1, .int (nI f)), (2, .int (nI (f + m)))] [.double (dr_cb (tv x i f q).1 (tv x i f q).2 (f + q))] h _
    refine mi_blk okX2_timeOver 2 (pc' := 31) (lv' := [(3, .double (dr_cb (tv x i f q).1 (tv x i f q).2 (f + q))), (6, .int (nI (f + q))), (5, .int (nI (tv x i f q).2)), (0, .ref a), (1, .int (nI f)), (2, .int (nI (f + m)))]) (st' := [.int (nI (f + q))]) rfl ?_
    refine mi_callS okX2_timeOver (mc := 0) (ms := 0) (mc' := 0) (ms' := 0) (As := [.int (nI (f + q))]) (st := []) rfl cs_RX2_74 rfl (by decide) (Nat.le_of_ble_eq_true rfl) (c_headBehind (by omega)) (fun r h1 q => ?_)
    obtain ⟨rfl, e9⟩ := q; have e9 := e9.symm; subst e9
    change mi_W pP X kX2_timeOver 4 0 0 34 [(3, .double (dr_cb (tv x i f q).1 (tv x i f q).2 (f + q))), (6, .int (nI (f + q))), (5, .int (nI (tv x i f q).2)), (0, .ref a), (1, .int (nI f)), (2, .int (nI (f + m)))] [.int (nI (hd_b (f + q)))] h _
    refine mi_blk okX2_timeOver 3 (pc' := 14) (lv' := [(6, .int ((nI (f + q)) + 1)), (5, .int (nI (hd_b (f + q)))), (3, .double (dr_cb (tv x i f q).1 (tv x i f q).2 (f + q))), (0, .ref a), (1, .int (nI f)), (2, .int (nI (f + m)))]) (st' := []) rfl ?_
    rw [← nI_succ]
    exact (ih (q + 1) (by omega)).locs (by simp [tv, Nat.add_assoc])
set_option maxHeartbeats 4000000 in
set_option maxRecDepth 100000 in
theorem c_timeOver {X : mi_X} (hX : mi_X23 X) {h : mi_H} {i f m : Nat} (hi : i < 240) (hf : f + m ≤ 240) {a : Nat} {x : UInt64} {r0 t g : Int32} (hE : 6 ≤ a) (ha : a < h.1) (hc : h.2 a = dv_c i x r0 t g) (hx : ∀ q, q < m → dr_okc (tv x i f q).1 (tv x i f q).2 (f + q)) (hs : vf_n64 (FP.dsub (tv x i f m).1 x)) : mi_S pP X kX2_timeOver 4 [.ref a, .int (nI f), .int (nI (f + m))] h 0 0 (fun r h1 => r = some (.double (FP.dsub (tv x i f m).1 x)) ∧ h1 = h) := by
  refine enX2_timeOver (Nat.le_of_ble_eq_true rfl) ?_
  refine mi_blk okX2_timeOver 1 (pc' := 1) (lv' := [(0, .ref a), (1, .int (nI f)), (2, .int (nI (f + m)))]) (st' := [.ref a]) rfl ?_
  refine mi_getf okX2_timeOver rfl fg_RX2_15 hE ha hc (v := .double x) rfl ?_
  refine mi_blk okX2_timeOver 2 (pc' := 6) (lv' := [(3, .double x), (0, .ref a), (1, .int (nI f)), (2, .int (nI (f + m)))]) (st' := [.ref a]) rfl ?_
  refine mi_getf okX2_timeOver rfl fg_RX2_9 hE ha hc (v := .int (nI i)) rfl ?_
  refine mi_blk okX2_timeOver 3 (pc' := 14) (lv' := [(6, .int (nI f)), (5, .int (nI i)), (3, .double x), (0, .ref a), (1, .int (nI f)), (2, .int (nI (f + m)))]) (st' := []) rfl ?_
  exact l_tv hX hi hf hE ha hc hx hs m 0 (by omega)
