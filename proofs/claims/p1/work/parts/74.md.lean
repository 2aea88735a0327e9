-- where the reference sees the SECTORS lie, and its head's ways
def mo_t (x : Int32) : Int32 := if 60 ≤ x then (if 140 ≤ x then 20 + (x - 140) / 10 else 10 + (x - 60) / 8) else x / 6
def mo_pl (x : Int32) : Int32 := if 60 ≤ x then (if 140 ≤ x then (x - 140) - (x - 140) / 10 * 10 else (x - 60) - (x - 60) / 8 * 8) else x - x / 6 * 6
def mo_mn (x : Int32) : Int32 := if 60 ≤ x then (if 140 ≤ x then 10 else 8) else 6
set_option maxRecDepth 100000 in
theorem mo_tb : (List.range 240).all (fun k => decide (mo_t (nI k) = sp_turn (nI k)) && (decide (mo_pl (nI k) = sp_in (nI k)) && decide (mo_mn (nI k) = sp_m (nI k)))) = true := by decide +kernel
theorem mo_t_ok {k : Nat} (hk : k < 240) : mo_t (nI k) = sp_turn (nI k) ∧ mo_pl (nI k) = sp_in (nI k) ∧ mo_mn (nI k) = sp_m (nI k) := by
  have h := List.all_eq_true.mp mo_tb k (List.mem_range.mpr hk)
  rw [Bool.and_eq_true, Bool.and_eq_true] at h
  exact ⟨of_decide_eq_true h.1, of_decide_eq_true h.2.1, of_decide_eq_true h.2.2⟩
/-- the reference's rest of a turn -/
def mo_r (a : UInt64) : UInt64 := if 0 ≤ Op.cmpValue (FP.dcmp (FP.drem a 4645040803167600640) FP.dconst0) .g then FP.drem a 4645040803167600640 else FP.dadd (FP.drem a 4645040803167600640) 4645040803167600640
def mo_ra (j : Nat) : UInt64 := dr_a (dr_x 0 j) (dr_t (nI (dr_d 0 j)))
def mo_s (j : Nat) : UInt64 := FP.dadd (dr_t (nI (dr_d 0 j))) (FP.ddiv (mo_r (mo_ra j)) 4636033603912859648)
set_option maxRecDepth 100000 in
theorem mo_rb : (List.range 240).all (fun j => n64 (FP.drem (mo_ra j) 4645040803167600640) && (n64 (FP.dadd (FP.drem (mo_ra j) 4645040803167600640) 4645040803167600640) && (decide (j = 0) || (n64 (FP.ddiv (mo_r (mo_ra j)) 4636033603912859648) && decide (mo_s j = dr_s (dr_x 0 j) (nI (dr_d 0 j))))))) = true := by decide +kernel
theorem mo_r_ok {j : Nat} (hj : j < 240) : vf_n64 (FP.drem (mo_ra j) 4645040803167600640) ∧ vf_n64 (FP.dadd (FP.drem (mo_ra j) 4645040803167600640) 4645040803167600640) ∧ (j = 0 ∨ vf_n64 (FP.ddiv (mo_r (mo_ra j)) 4636033603912859648) ∧ mo_s j = dr_s (dr_x 0 j) (nI (dr_d 0 j))) := by
  have h := List.all_eq_true.mp mo_rb j (List.mem_range.mpr hj)
  rw [Bool.and_eq_true, Bool.and_eq_true, Bool.or_eq_true, Bool.and_eq_true] at h
  exact ⟨n64_ok h.1, n64_ok h.2.1, h.2.2.imp of_decide_eq_true (fun q => ⟨n64_ok q.1, of_decide_eq_true q.2⟩)⟩
set_option maxHeartbeats 4000000 in
set_option maxRecDepth 100000 in
theorem m_turnOf {X : mi_X} {h : mi_H} {k : Nat} (hk : k < 240) : mi_S pP X kX9_turnOf 0 [.int (nI k)] h 0 0 (fun r h1 => r = some (.int (sp_turn (nI k))) ∧ h1 = h) := by
  refine enX9_turnOf (Nat.le_of_ble_eq_true rfl) ?_
  refine mi_blk okX9_turnOf 2 (pc' := 3) (lv' := [(0, .int (nI k))]) (st' := [.int 60, .int (nI k)]) rfl ?_
  refine mi_ic_ge okX9_turnOf rfl rfl (fun c_3 => ?_) (fun c_3 => ?_)
  · refine mi_blk okX9_turnOf 2 (pc' := 17) (lv' := [(0, .int (nI k))]) (st' := [.int 140, .int (nI k)]) rfl ?_
    refine mi_ic_ge okX9_turnOf rfl rfl (fun c_17 => ?_) (fun c_17 => ?_)
    · refine mi_blk okX9_turnOf 5 (pc' := 42) (lv' := [(0, .int (nI k))]) (st' := [.int 10, .int ((nI k) - 140), .int 20]) rfl ?_
      refine mi_idiv okX9_turnOf rfl (by decide) ?_
      refine mi_blk okX9_turnOf 1 (pc' := 44) (lv' := [(0, .int (nI k))]) (st' := [.int (20 + (((nI k) - 140) / 10))]) rfl ?_
      exact mi_ret_i okX9_turnOf rfl rfl rfl ⟨by rw [← (mo_t_ok hk).1, mo_t, if_pos c_3, if_pos c_17], rfl⟩
    · refine mi_blk okX9_turnOf 5 (pc' := 28) (lv' := [(0, .int (nI k))]) (st' := [.int 8, .int ((nI k) - 60), .int 10]) rfl ?_
      refine mi_idiv okX9_turnOf rfl (by decide) ?_
      refine mi_blk okX9_turnOf 2 (pc' := 44) (lv' := [(0, .int (nI k))]) (st' := [.int (10 + (((nI k) - 60) / 8))]) rfl ?_
      exact mi_ret_i okX9_turnOf rfl rfl rfl ⟨by rw [← (mo_t_ok hk).1, mo_t, if_pos c_3, if_neg c_17], rfl⟩
  · refine mi_blk okX9_turnOf 2 (pc' := 9) (lv' := [(0, .int (nI k))]) (st' := [.int 6, .int (nI k)]) rfl ?_
    refine mi_idiv okX9_turnOf rfl (by decide) ?_
    refine mi_blk okX9_turnOf 1 (pc' := 44) (lv' := [(0, .int (nI k))]) (st' := [.int ((nI k) / 6)]) rfl ?_
    exact mi_ret_i okX9_turnOf rfl rfl rfl ⟨by rw [← (mo_t_ok hk).1, mo_t, if_neg c_3], rfl⟩
set_option maxHeartbeats 4000000 in
set_option maxRecDepth 100000 in
theorem m_angleOf {X : mi_X} {h : mi_H} {k : Nat} (hk : k < 240) : mi_S pP X kX9_angleOf 0 [.int (nI k)] h 0 0 (fun r h1 => r = some (.double (sp_ang (nI k))) ∧ h1 = h) := by
  refine enX9_angleOf (Nat.le_of_ble_eq_true rfl) ?_
  refine mi_blk okX9_angleOf 2 (pc' := 3) (lv' := [(0, .int (nI k))]) (st' := [.int 60, .int (nI k)]) rfl ?_
  refine mi_ic_ge okX9_angleOf rfl rfl (fun c_3 => ?_) (fun c_3 => ?_)
  · refine mi_blk okX9_angleOf 2 (pc' := 15) (lv' := [(0, .int (nI k))]) (st' := [.int 140, .int (nI k)]) rfl ?_
    refine mi_ic_ge okX9_angleOf rfl rfl (fun c_15 => ?_) (fun c_15 => ?_)
    · refine mi_blk okX9_angleOf 1 (pc' := 25) (lv' := [(0, .int (nI k))]) (st' := [.int 10]) rfl ?_
      have e1 : (10 : Int32) = sp_m (nI k) := by rw [← (mo_t_ok hk).2.2, mo_mn, if_pos c_3, if_pos c_15]
      rw [e1]
      refine mi_blk okX9_angleOf 1 (pc' := 26) (lv' := [(1, .int (sp_m (nI k))), (0, .int (nI k))]) (st' := []) rfl ?_
      refine mi_blk okX9_angleOf 2 (pc' := 29) (lv' := [(1, .int (sp_m (nI k))), (0, .int (nI k))]) (st' := [.int 60, .int (nI k)]) rfl ?_
      refine mi_ic_ge okX9_angleOf rfl rfl (fun c_29 => ?_) (fun c_29 => ?_)
      · refine mi_blk okX9_angleOf 2 (pc' := 43) (lv' := [(1, .int (sp_m (nI k))), (0, .int (nI k))]) (st' := [.int 140, .int (nI k)]) rfl ?_
        refine mi_ic_ge okX9_angleOf rfl rfl (fun c_43 => ?_) (fun c_43 => ?_)
        · refine mi_blk okX9_angleOf 4 (pc' := 63) (lv' := [(1, .int (sp_m (nI k))), (0, .int (nI k))]) (st' := [.int 10, .int ((nI k) - 140)]) rfl ?_
          refine mi_irem okX9_angleOf rfl (by decide) ?_
          have e2 : (((nI k) - 140) - ((nI k) - 140) / 10 * 10 : Int32) = sp_in (nI k) := by rw [← (mo_t_ok hk).2.1, mo_pl, if_pos c_29, if_pos c_43]
          rw [e2]
          refine mi_blk okX9_angleOf 1 (pc' := 65) (lv' := [(2, .int (sp_in (nI k))), (1, .int (sp_m (nI k))), (0, .int (nI k))]) (st' := []) rfl ?_
          refine mi_blk okX9_angleOf 2 (pc' := 67) (lv' := [(2, .int (sp_in (nI k))), (1, .int (sp_m (nI k))), (0, .int (nI k))]) (st' := [.double (FP.i2d (sp_in (nI k)))]) rfl ?_
          refine mi_ldc2d okX9_angleOf (v := (4645040803167600640 : UInt64)) rfl kc_RX9_169 ?_
          refine mi_dmul okX9_angleOf rfl (ang_ok hk).1 ?_
          refine mi_blk okX9_angleOf 2 (pc' := 73) (lv' := [(2, .int (sp_in (nI k))), (1, .int (sp_m (nI k))), (0, .int (nI k))]) (st' := [.double (FP.i2d (sp_m (nI k))), .double (FP.dmul (FP.i2d (sp_in (nI k))) (4645040803167600640 : UInt64))]) rfl ?_
          refine mi_ddiv okX9_angleOf rfl (ang_ok hk).2.1 ?_
          exact mi_ret_d okX9_angleOf rfl rfl ⟨rfl, rfl⟩
        · refine mi_blk okX9_angleOf 4 (pc' := 52) (lv' := [(1, .int (sp_m (nI k))), (0, .int (nI k))]) (st' := [.int 8, .int ((nI k) - 60)]) rfl ?_
          refine mi_irem okX9_angleOf rfl (by decide) ?_
          refine mi_blk okX9_angleOf 1 (pc' := 64) (lv' := [(1, .int (sp_m (nI k))), (0, .int (nI k))]) (st' := [.int (((nI k) - 60) - ((nI k) - 60) / 8 * 8)]) rfl ?_
          have e2 : (((nI k) - 60) - ((nI k) - 60) / 8 * 8 : Int32) = sp_in (nI k) := by rw [← (mo_t_ok hk).2.1, mo_pl, if_pos c_29, if_neg c_43]
          rw [e2]
          refine mi_blk okX9_angleOf 1 (pc' := 65) (lv' := [(2, .int (sp_in (nI k))), (1, .int (sp_m (nI k))), (0, .int (nI k))]) (st' := []) rfl ?_
          refine mi_blk okX9_angleOf 2 (pc' := 67) (lv' := [(2, .int (sp_in (nI k))), (1, .int (sp_m (nI k))), (0, .int (nI k))]) (st' := [.double (FP.i2d (sp_in (nI k)))]) rfl ?_
          refine mi_ldc2d okX9_angleOf (v := (4645040803167600640 : UInt64)) rfl kc_RX9_169 ?_
          refine mi_dmul okX9_angleOf rfl (ang_ok hk).1 ?_
          refine mi_blk okX9_angleOf 2 (pc' := 73) (lv' := [(2, .int (sp_in (nI k))), (1, .int (sp_m (nI k))), (0, .int (nI k))]) (st' := [.double (FP.i2d (sp_m (nI k))), .double (FP.dmul (FP.i2d (sp_in (nI k))) (4645040803167600640 : UInt64))]) rfl ?_
          refine mi_ddiv okX9_angleOf rfl (ang_ok hk).2.1 ?_
          exact mi_ret_d okX9_angleOf rfl rfl ⟨rfl, rfl⟩
      · refine mi_blk okX9_angleOf 2 (pc' := 35) (lv' := [(1, .int (sp_m (nI k))), (0, .int (nI k))]) (st' := [.int 6, .int (nI k)]) rfl ?_
        refine mi_irem okX9_angleOf rfl (by decide) ?_
        refine mi_blk okX9_angleOf 1 (pc' := 64) (lv' := [(1, .int (sp_m (nI k))), (0, .int (nI k))]) (st' := [.int ((nI k) - (nI k) / 6 * 6)]) rfl ?_
        have e2 : ((nI k) - (nI k) / 6 * 6 : Int32) = sp_in (nI k) := by rw [← (mo_t_ok hk).2.1, mo_pl, if_neg c_29]
        rw [e2]
        refine mi_blk okX9_angleOf 1 (pc' := 65) (lv' := [(2, .int (sp_in (nI k))), (1, .int (sp_m (nI k))), (0, .int (nI k))]) (st' := []) rfl ?_
        refine mi_blk okX9_angleOf 2 (pc' := 67) (lv' := [(2, .int (sp_in (nI k))), (1, .int (sp_m (nI k))), (0, .int (nI k))]) (st' := [.double (FP.i2d (sp_in (nI k)))]) rfl ?_
        refine mi_ldc2d okX9_angleOf (v := (4645040803167600640 : UInt64)) rfl kc_RX9_169 ?_
        refine mi_dmul okX9_angleOf rfl (ang_ok hk).1 ?_
        refine mi_blk okX9_angleOf 2 (pc' := 73) (lv' := [(2, .int (sp_in (nI k))), (1, .int (sp_m (nI k))), (0, .int (nI k))]) (st' := [.double (FP.i2d (sp_m (nI k))), .double (FP.dmul (FP.i2d (sp_in (nI k))) (4645040803167600640 : UInt64))]) rfl ?_
        refine mi_ddiv okX9_angleOf rfl (ang_ok hk).2.1 ?_
        exact mi_ret_d okX9_angleOf rfl rfl ⟨rfl, rfl⟩
    · refine mi_blk okX9_angleOf 2 (pc' := 25) (lv' := [(0, .int (nI k))]) (st' := [.int 8]) rfl ?_
      have e1 : (8 : Int32) = sp_m (nI k) := by rw [← (mo_t_ok hk).2.2, mo_mn, if_pos c_3, if_neg c_15]
      rw [e1]
      refine mi_blk okX9_angleOf 1 (pc' := 26) (lv' := [(1, .int (sp_m (nI k))), (0, .int (nI k))]) (st' := []) rfl ?_
      refine mi_blk okX9_angleOf 2 (pc' := 29) (lv' := [(1, .int (sp_m (nI k))), (0, .int (nI k))]) (st' := [.int 60, .int (nI k)]) rfl ?_
      refine mi_ic_ge okX9_angleOf rfl rfl (fun c_29 => ?_) (fun c_29 => ?_)
      · refine mi_blk okX9_angleOf 2 (pc' := 43) (lv' := [(1, .int (sp_m (nI k))), (0, .int (nI k))]) (st' := [.int 140, .int (nI k)]) rfl ?_
        refine mi_ic_ge okX9_angleOf rfl rfl (fun c_43 => ?_) (fun c_43 => ?_)
        · refine mi_blk okX9_angleOf 4 (pc' := 63) (lv' := [(1, .int (sp_m (nI k))), (0, .int (nI k))]) (st' := [.int 10, .int ((nI k) - 140)]) rfl ?_
          refine mi_irem okX9_angleOf rfl (by decide) ?_
          have e2 : (((nI k) - 140) - ((nI k) - 140) / 10 * 10 : Int32) = sp_in (nI k) := by rw [← (mo_t_ok hk).2.1, mo_pl, if_pos c_29, if_pos c_43]
          rw [e2]
          refine mi_blk okX9_angleOf 1 (pc' := 65) (lv' := [(2, .int (sp_in (nI k))), (1, .int (sp_m (nI k))), (0, .int (nI k))]) (st' := []) rfl ?_
          refine mi_blk okX9_angleOf 2 (pc' := 67) (lv' := [(2, .int (sp_in (nI k))), (1, .int (sp_m (nI k))), (0, .int (nI k))]) (st' := [.double (FP.i2d (sp_in (nI k)))]) rfl ?_
          refine mi_ldc2d okX9_angleOf (v := (4645040803167600640 : UInt64)) rfl kc_RX9_169 ?_
          refine mi_dmul okX9_angleOf rfl (ang_ok hk).1 ?_
          refine mi_blk okX9_angleOf 2 (pc' := 73) (lv' := [(2, .int (sp_in (nI k))), (1, .int (sp_m (nI k))), (0, .int (nI k))]) (st' := [.double (FP.i2d (sp_m (nI k))), .double (FP.dmul (FP.i2d (sp_in (nI k))) (4645040803167600640 : UInt64))]) rfl ?_
          refine mi_ddiv okX9_angleOf rfl (ang_ok hk).2.1 ?_
          exact mi_ret_d okX9_angleOf rfl rfl ⟨rfl, rfl⟩
        · refine mi_blk okX9_angleOf 4 (pc' := 52) (lv' := [(1, .int (sp_m (nI k))), (0, .int (nI k))]) (st' := [.int 8, .int ((nI k) - 60)]) rfl ?_
          refine mi_irem okX9_angleOf rfl (by decide) ?_
          refine mi_blk okX9_angleOf 1 (pc' := 64) (lv' := [(1, .int (sp_m (nI k))), (0, .int (nI k))]) (st' := [.int (((nI k) - 60) - ((nI k) - 60) / 8 * 8)]) rfl ?_
          have e2 : (((nI k) - 60) - ((nI k) - 60) / 8 * 8 : Int32) = sp_in (nI k) := by rw [← (mo_t_ok hk).2.1, mo_pl, if_pos c_29, if_neg c_43]
          rw [e2]
          refine mi_blk okX9_angleOf 1 (pc' := 65) (lv' := [(2, .int (sp_in (nI k))), (1, .int (sp_m (nI k))), (0, .int (nI k))]) (st' := []) rfl ?_
          refine mi_blk okX9_angleOf 2 (pc' := 67) (lv' := [(2, .int (sp_in (nI k))), (1, .int (sp_m (nI k))), (0, .int (nI k))]) (st' := [.double (FP.i2d (sp_in (nI k)))]) rfl ?_
          refine mi_ldc2d okX9_angleOf (v := (4645040803167600640 : UInt64)) rfl kc_RX9_169 ?_
          refine mi_dmul okX9_angleOf rfl (ang_ok hk).1 ?_
          refine mi_blk okX9_angleOf 2 (pc' := 73) (lv' := [(2, .int (sp_in (nI k))), (1, .int (sp_m (nI k))), (0, .int (nI k))]) (st' := [.double (FP.i2d (sp_m (nI k))), .double (FP.dmul (FP.i2d (sp_in (nI k))) (4645040803167600640 : UInt64))]) rfl ?_
          refine mi_ddiv okX9_angleOf rfl (ang_ok hk).2.1 ?_
          exact mi_ret_d okX9_angleOf rfl rfl ⟨rfl, rfl⟩
      · refine mi_blk okX9_angleOf 2 (pc' := 35) (lv' := [(1, .int (sp_m (nI k))), (0, .int (nI k))]) (st' := [.int 6, .int (nI k)]) rfl ?_
        refine mi_irem okX9_angleOf rfl (by decide) ?_
        refine mi_blk okX9_angleOf 1 (pc' := 64) (lv' := [(1, .int (sp_m (nI k))), (0, .int (nI k))]) (st' := [.int ((nI k) - (nI k) / 6 * 6)]) rfl ?_
        have e2 : ((nI k) - (nI k) / 6 * 6 : Int32) = sp_in (nI k) := by rw [← (mo_t_ok hk).2.1, mo_pl, if_neg c_29]
        rw [e2]
        refine mi_blk okX9_angleOf 1 (pc' := 65) (lv' := [(2, .int (sp_in (nI k))), (1, .int (sp_m (nI k))), (0, .int (nI k))]) (st' := []) rfl ?_
        refine mi_blk okX9_angleOf 2 (pc' := 67) (lv' := [(2, .int (sp_in (nI k))), (1, .int (sp_m (nI k))), (0, .int (nI k))]) (st' := [.double (FP.i2d (sp_in (nI k)))]) rfl ?_
        refine mi_ldc2d okX9_angleOf (v := (4645040803167600640 : UInt64)) rfl kc_RX9_169 ?_
        refine mi_dmul okX9_angleOf rfl (ang_ok hk).1 ?_
        refine mi_blk okX9_angleOf 2 (pc' := 73) (lv' := [(2, .int (sp_in (nI k))), (1, .int (sp_m (nI k))), (0, .int (nI k))]) (st' := [.double (FP.i2d (sp_m (nI k))), .double (FP.dmul (FP.i2d (sp_in (nI k))) (4645040803167600640 : UInt64))]) rfl ?_
        refine mi_ddiv okX9_angleOf rfl (ang_ok hk).2.1 ?_
        exact mi_ret_d okX9_angleOf rfl rfl ⟨rfl, rfl⟩
  · refine mi_blk okX9_angleOf 2 (pc' := 25) (lv' := [(0, .int (nI k))]) (st' := [.int 6]) rfl ?_
    have e1 : (6 : Int32) = sp_m (nI k) := by rw [← (mo_t_ok hk).2.2, mo_mn, if_neg c_3]
    rw [e1]
    refine mi_blk okX9_angleOf 1 (pc' := 26) (lv' := [(1, .int (sp_m (nI k))), (0, .int (nI k))]) (st' := []) rfl ?_
    refine mi_blk okX9_angleOf 2 (pc' := 29) (lv' := [(1, .int (sp_m (nI k))), (0, .int (nI k))]) (st' := [.int 60, .int (nI k)]) rfl ?_
    refine mi_ic_ge okX9_angleOf rfl rfl (fun c_29 => ?_) (fun c_29 => ?_)
    · refine mi_blk okX9_angleOf 2 (pc' := 43) (lv' := [(1, .int (sp_m (nI k))), (0, .int (nI k))]) (st' := [.int 140, .int (nI k)]) rfl ?_
      refine mi_ic_ge okX9_angleOf rfl rfl (fun c_43 => ?_) (fun c_43 => ?_)
      · refine mi_blk okX9_angleOf 4 (pc' := 63) (lv' := [(1, .int (sp_m (nI k))), (0, .int (nI k))]) (st' := [.int 10, .int ((nI k) - 140)]) rfl ?_
        refine mi_irem okX9_angleOf rfl (by decide) ?_
        have e2 : (((nI k) - 140) - ((nI k) - 140) / 10 * 10 : Int32) = sp_in (nI k) := by rw [← (mo_t_ok hk).2.1, mo_pl, if_pos c_29, if_pos c_43]
        rw [e2]
        refine mi_blk okX9_angleOf 1 (pc' := 65) (lv' := [(2, .int (sp_in (nI k))), (1, .int (sp_m (nI k))), (0, .int (nI k))]) (st' := []) rfl ?_
        refine mi_blk okX9_angleOf 2 (pc' := 67) (lv' := [(2, .int (sp_in (nI k))), (1, .int (sp_m (nI k))), (0, .int (nI k))]) (st' := [.double (FP.i2d (sp_in (nI k)))]) rfl ?_
        refine mi_ldc2d okX9_angleOf (v := (4645040803167600640 : UInt64)) rfl kc_RX9_169 ?_
        refine mi_dmul okX9_angleOf rfl (ang_ok hk).1 ?_
        refine mi_blk okX9_angleOf 2 (pc' := 73) (lv' := [(2, .int (sp_in (nI k))), (1, .int (sp_m (nI k))), (0, .int (nI k))]) (st' := [.double (FP.i2d (sp_m (nI k))), .double (FP.dmul (FP.i2d (sp_in (nI k))) (4645040803167600640 : UInt64))]) rfl ?_
        refine mi_ddiv okX9_angleOf rfl (ang_ok hk).2.1 ?_
        exact mi_ret_d okX9_angleOf rfl rfl ⟨rfl, rfl⟩
      · refine mi_blk okX9_angleOf 4 (pc' := 52) (lv' := [(1, .int (sp_m (nI k))), (0, .int (nI k))]) (st' := [.int 8, .int ((nI k) - 60)]) rfl ?_
        refine mi_irem okX9_angleOf rfl (by decide) ?_
        refine mi_blk okX9_angleOf 1 (pc' := 64) (lv' := [(1, .int (sp_m (nI k))), (0, .int (nI k))]) (st' := [.int (((nI k) - 60) - ((nI k) - 60) / 8 * 8)]) rfl ?_
        have e2 : (((nI k) - 60) - ((nI k) - 60) / 8 * 8 : Int32) = sp_in (nI k) := by rw [← (mo_t_ok hk).2.1, mo_pl, if_pos c_29, if_neg c_43]
        rw [e2]
        refine mi_blk okX9_angleOf 1 (pc' := 65) (lv' := [(2, .int (sp_in (nI k))), (1, .int (sp_m (nI k))), (0, .int (nI k))]) (st' := []) rfl ?_
        refine mi_blk okX9_angleOf 2 (pc' := 67) (lv' := [(2, .int (sp_in (nI k))), (1, .int (sp_m (nI k))), (0, .int (nI k))]) (st' := [.double (FP.i2d (sp_in (nI k)))]) rfl ?_
        refine mi_ldc2d okX9_angleOf (v := (4645040803167600640 : UInt64)) rfl kc_RX9_169 ?_
        refine mi_dmul okX9_angleOf rfl (ang_ok hk).1 ?_
        refine mi_blk okX9_angleOf 2 (pc' := 73) (lv' := [(2, .int (sp_in (nI k))), (1, .int (sp_m (nI k))), (0, .int (nI k))]) (st' := [.double (FP.i2d (sp_m (nI k))), .double (FP.dmul (FP.i2d (sp_in (nI k))) (4645040803167600640 : UInt64))]) rfl ?_
        refine mi_ddiv okX9_angleOf rfl (ang_ok hk).2.1 ?_
        exact mi_ret_d okX9_angleOf rfl rfl ⟨rfl, rfl⟩
    · refine mi_blk okX9_angleOf 2 (pc' := 35) (lv' := [(1, .int (sp_m (nI k))), (0, .int (nI k))]) (st' := [.int 6, .int (nI k)]) rfl ?_
      refine mi_irem okX9_angleOf rfl (by decide) ?_
      refine mi_blk okX9_angleOf 1 (pc' := 64) (lv' := [(1, .int (sp_m (nI k))), (0, .int (nI k))]) (st' := [.int ((nI k) - (nI k) / 6 * 6)]) rfl ?_
      have e2 : ((nI k) - (nI k) / 6 * 6 : Int32) = sp_in (nI k) := by rw [← (mo_t_ok hk).2.1, mo_pl, if_neg c_29]
      rw [e2]
      refine mi_blk okX9_angleOf 1 (pc' := 65) (lv' := [(2, .int (sp_in (nI k))), (1, .int (sp_m (nI k))), (0, .int (nI k))]) (st' := []) rfl ?_
      refine mi_blk okX9_angleOf 2 (pc' := 67) (lv' := [(2, .int (sp_in (nI k))), (1, .int (sp_m (nI k))), (0, .int (nI k))]) (st' := [.double (FP.i2d (sp_in (nI k)))]) rfl ?_
      refine mi_ldc2d okX9_angleOf (v := (4645040803167600640 : UInt64)) rfl kc_RX9_169 ?_
      refine mi_dmul okX9_angleOf rfl (ang_ok hk).1 ?_
      refine mi_blk okX9_angleOf 2 (pc' := 73) (lv' := [(2, .int (sp_in (nI k))), (1, .int (sp_m (nI k))), (0, .int (nI k))]) (st' := [.double (FP.i2d (sp_m (nI k))), .double (FP.dmul (FP.i2d (sp_in (nI k))) (4645040803167600640 : UInt64))]) rfl ?_
      refine mi_ddiv okX9_angleOf rfl (ang_ok hk).2.1 ?_
      exact mi_ret_d okX9_angleOf rfl rfl ⟨rfl, rfl⟩
set_option maxHeartbeats 4000000 in
set_option maxRecDepth 100000 in
theorem m_seekFrom {X : mi_X} {h : mi_H} {j : Nat} (hj : j < 240) : mi_S pP X kX9_seekFrom 1 [.int (nI 0), .int (nI j)] h 0 0 (fun r h1 => r = some (.double (dr_sk 0 j)) ∧ h1 = h) := by
  refine enX9_seekFrom (Nat.le_of_ble_eq_true rfl) ?_
  refine mi_blk okX9_seekFrom 2 (pc' := 2) (lv' := [(0, .int (nI 0)), (1, .int (nI j))]) (st' := [.int (nI j), .int (nI 0)]) rfl ?_
  refine mi_ic_ne okX9_seekFrom rfl rfl (fun c_2 => ?_) (fun c_2 => ?_)
  · refine mi_ldc2d okX9_seekFrom (v := (4611686018427387904 : UInt64)) rfl kc_RX9_184 ?_
    refine mi_ldc2d okX9_seekFrom (v := (4598175219545276416 : UInt64)) rfl kc_RX9_186 ?_
    refine mi_blk okX9_seekFrom 1 (pc' := 14) (lv' := [(0, .int (nI 0)), (1, .int (nI j))]) (st' := [.int (nI j), .double (4598175219545276416 : UInt64), .double (4611686018427387904 : UInt64)]) rfl ?_
    refine mi_callS okX9_seekFrom (mc := 0) (ms := 0) (mc' := 0) (ms' := 0) (As := [.int (nI j)]) (st := [.double (4598175219545276416 : UInt64), .double (4611686018427387904 : UInt64)]) rfl cs_RX9_171 rfl (by decide) (Nat.le_of_ble_eq_true rfl) (m_turnOf hj) (fun r h1 q => ?_)
    obtain ⟨rfl, e9⟩ := q; have e9 := e9.symm; subst e9
    change mi_WX _ pP X kX9_seekFrom 1 0 0 17 [(0, .int (nI 0)), (1, .int (nI j))] [.int (sp_turn (nI j)), .double (4598175219545276416 : UInt64), .double (4611686018427387904 : UInt64)] h _
    refine mi_blk okX9_seekFrom 1 (pc' := 18) (lv' := [(0, .int (nI 0)), (1, .int (nI j))]) (st' := [.int (nI 0), .int (sp_turn (nI j)), .double (4598175219545276416 : UInt64), .double (4611686018427387904 : UInt64)]) rfl ?_
    refine mi_callS okX9_seekFrom (mc := 0) (ms := 0) (mc' := 0) (ms' := 0) (As := [.int (nI 0)]) (st := [.int (sp_turn (nI j)), .double (4598175219545276416 : UInt64), .double (4611686018427387904 : UInt64)]) rfl cs_RX9_171 rfl (by decide) (Nat.le_of_ble_eq_true rfl) (m_turnOf (by decide)) (fun r h1 q => ?_)
    obtain ⟨rfl, e9⟩ := q; have e9 := e9.symm; subst e9
    change mi_WX _ pP X kX9_seekFrom 1 0 0 21 [(0, .int (nI 0)), (1, .int (nI j))] [.int (sp_turn (nI 0)), .int (sp_turn (nI j)), .double (4598175219545276416 : UInt64), .double (4611686018427387904 : UInt64)] h _
    refine mi_blk okX9_seekFrom 1 (pc' := 22) (lv' := [(0, .int (nI 0)), (1, .int (nI j))]) (st' := [.int ((sp_turn (nI j)) - (sp_turn (nI 0))), .double (4598175219545276416 : UInt64), .double (4611686018427387904 : UInt64)]) rfl ?_
    refine mi_abs okX9_seekFrom rfl mm_RX9_106 ms_abs mz_Math mc_abs (by decide) (Nat.le_of_ble_eq_true rfl) ?_
    rw [dr_abs (by decide : 0 < 240) hj]
    refine mi_blk okX9_seekFrom 1 (pc' := 26) (lv' := [(0, .int (nI 0)), (1, .int (nI j))]) (st' := [.double (FP.i2d (nI (dr_d 0 j))), .double (4598175219545276416 : UInt64), .double (4611686018427387904 : UInt64)]) rfl ?_
    refine mi_dmul okX9_seekFrom rfl (dr_ct_ok (dr_d_lt (by decide : 0 < 240) hj)).1 ?_
    refine mi_dadd okX9_seekFrom rfl (dr_ct_ok (dr_d_lt (by decide : 0 < 240) hj)).2.1 ?_
    refine mi_blk okX9_seekFrom 1 (pc' := 29) (lv' := [(2, .double (FP.dadd (4611686018427387904 : UInt64) (FP.dmul (4598175219545276416 : UInt64) (FP.i2d (nI (dr_d 0 j)))))), (0, .int (nI 0)), (1, .int (nI j))]) (st' := []) rfl ?_
    change mi_WX _ pP X kX9_seekFrom 1 0 0 29 [(2, .double (dr_t (nI (dr_d 0 j)))), (0, .int (nI 0)), (1, .int (nI j))] [] h _
    refine mi_blk okX9_seekFrom 1 (pc' := 30) (lv' := [(2, .double (dr_t (nI (dr_d 0 j)))), (0, .int (nI 0)), (1, .int (nI j))]) (st' := [.int (nI j)]) rfl ?_
    refine mi_callS okX9_seekFrom (mc := 0) (ms := 0) (mc' := 0) (ms' := 0) (As := [.int (nI j)]) (st := []) rfl cs_RX9_174 rfl (by decide) (Nat.le_of_ble_eq_true rfl) (m_angleOf hj) (fun r h1 q => ?_)
    obtain ⟨rfl, e9⟩ := q; have e9 := e9.symm; subst e9
    change mi_WX _ pP X kX9_seekFrom 1 0 0 33 [(2, .double (dr_t (nI (dr_d 0 j)))), (0, .int (nI 0)), (1, .int (nI j))] [.double (sp_ang (nI j))] h _
    refine mi_blk okX9_seekFrom 1 (pc' := 34) (lv' := [(2, .double (dr_t (nI (dr_d 0 j)))), (0, .int (nI 0)), (1, .int (nI j))]) (st' := [.int (nI 0), .double (sp_ang (nI j))]) rfl ?_
    refine mi_callS okX9_seekFrom (mc := 0) (ms := 0) (mc' := 0) (ms' := 0) (As := [.int (nI 0)]) (st := [.double (sp_ang (nI j))]) rfl cs_RX9_174 rfl (by decide) (Nat.le_of_ble_eq_true rfl) (m_angleOf (by decide)) (fun r h1 q => ?_)
    obtain ⟨rfl, e9⟩ := q; have e9 := e9.symm; subst e9
    change mi_WX _ pP X kX9_seekFrom 1 0 0 37 [(2, .double (dr_t (nI (dr_d 0 j)))), (0, .int (nI 0)), (1, .int (nI j))] [.double (sp_ang (nI 0)), .double (sp_ang (nI j))] h _
    refine mi_dsub okX9_seekFrom rfl (dr_x_in (by decide : 0 < 240) hj).1 ?_
    refine mi_ldc2d okX9_seekFrom (v := (4636033603912859648 : UInt64)) rfl kc_RX9_188 ?_
    refine mi_blk okX9_seekFrom 1 (pc' := 42) (lv' := [(2, .double (dr_t (nI (dr_d 0 j)))), (0, .int (nI 0)), (1, .int (nI j))]) (st' := [.double (dr_t (nI (dr_d 0 j))), .double (4636033603912859648 : UInt64), .double (FP.dsub (sp_ang (nI j)) (sp_ang (nI 0)))]) rfl ?_
    refine mi_dmul okX9_seekFrom rfl (dr_ct_ok (dr_d_lt (by decide : 0 < 240) hj)).2.2 ?_
    refine mi_dsub okX9_seekFrom rfl (dr_cs_ok (dr_x_in (by decide : 0 < 240) hj).2 (dr_d_lt (by decide : 0 < 240) hj)).1 ?_
    change mi_WX _ pP X kX9_seekFrom 1 0 0 44 [(2, .double (dr_t (nI (dr_d 0 j)))), (0, .int (nI 0)), (1, .int (nI j))] [.double (mo_ra j)] h _
    refine mi_ldc2d okX9_seekFrom (v := (4645040803167600640 : UInt64)) rfl kc_RX9_169 ?_
    refine mi_drem okX9_seekFrom rfl (mo_r_ok hj).1 ?_
    refine mi_blk okX9_seekFrom 4 (pc' := 54) (lv' := [(4, .double (FP.drem (mo_ra j) (4645040803167600640 : UInt64))), (2, .double (dr_t (nI (dr_d 0 j)))), (0, .int (nI 0)), (1, .int (nI j))]) (st' := [.int (Op.cmpValue (FP.dcmp (FP.drem (mo_ra j) (4645040803167600640 : UInt64)) FP.dconst0) .g)]) rfl ?_
    refine mi_if_ge okX9_seekFrom rfl rfl (fun c_54 => ?_) (fun c_54 => ?_)
    · refine mi_blk okX9_seekFrom 2 (pc' := 68) (lv' := [(4, .double (FP.drem (mo_ra j) (4645040803167600640 : UInt64))), (2, .double (dr_t (nI (dr_d 0 j)))), (0, .int (nI 0)), (1, .int (nI j))]) (st' := [.double (FP.drem (mo_ra j) (4645040803167600640 : UInt64)), .double (dr_t (nI (dr_d 0 j)))]) rfl ?_
      refine mi_ldc2d okX9_seekFrom (v := (4636033603912859648 : UInt64)) rfl kc_RX9_188 ?_
      refine mi_ddiv okX9_seekFrom rfl (by have := ((mo_r_ok hj).2.2.resolve_left (fun e => c_2 (by rw [e]))).1; unfold mo_r at this; first | (rw [if_pos c_54] at this; exact this) | (rw [if_neg c_54] at this; exact this)) ?_
      refine mi_dadd okX9_seekFrom rfl (by have := (dr_cs_ok (dr_x_in (by decide : 0 < 240) hj).2 (dr_d_lt (by decide : 0 < 240) hj)).2.2.2.1; rw [← ((mo_r_ok hj).2.2.resolve_left (fun e => c_2 (by rw [e]))).2] at this; unfold mo_s mo_r at this; first | (rw [if_pos c_54] at this; exact this) | (rw [if_neg c_54] at this; exact this)) ?_
      exact mi_ret_d okX9_seekFrom rfl rfl ⟨by rw [dr_sk, if_neg (fun e => c_2 (by rw [e])), ← ((mo_r_ok hj).2.2.resolve_left (fun e => c_2 (by rw [e]))).2, mo_s, mo_r, if_pos c_54], rfl⟩
    · refine mi_blk okX9_seekFrom 1 (pc' := 59) (lv' := [(4, .double (FP.drem (mo_ra j) (4645040803167600640 : UInt64))), (2, .double (dr_t (nI (dr_d 0 j)))), (0, .int (nI 0)), (1, .int (nI j))]) (st' := [.double (FP.drem (mo_ra j) (4645040803167600640 : UInt64))]) rfl ?_
      refine mi_ldc2d okX9_seekFrom (v := (4645040803167600640 : UInt64)) rfl kc_RX9_169 ?_
      refine mi_dadd okX9_seekFrom rfl (mo_r_ok hj).2.1 ?_
      refine mi_blk okX9_seekFrom 3 (pc' := 68) (lv' := [(4, .double (FP.dadd (FP.drem (mo_ra j) (4645040803167600640 : UInt64)) (4645040803167600640 : UInt64))), (2, .double (dr_t (nI (dr_d 0 j)))), (0, .int (nI 0)), (1, .int (nI j))]) (st' := [.double (FP.dadd (FP.drem (mo_ra j) (4645040803167600640 : UInt64)) (4645040803167600640 : UInt64)), .double (dr_t (nI (dr_d 0 j)))]) rfl ?_
      refine mi_ldc2d okX9_seekFrom (v := (4636033603912859648 : UInt64)) rfl kc_RX9_188 ?_
      refine mi_ddiv okX9_seekFrom rfl (by have := ((mo_r_ok hj).2.2.resolve_left (fun e => c_2 (by rw [e]))).1; unfold mo_r at this; first | (rw [if_pos c_54] at this; exact this) | (rw [if_neg c_54] at this; exact this)) ?_
      refine mi_dadd okX9_seekFrom rfl (by have := (dr_cs_ok (dr_x_in (by decide : 0 < 240) hj).2 (dr_d_lt (by decide : 0 < 240) hj)).2.2.2.1; rw [← ((mo_r_ok hj).2.2.resolve_left (fun e => c_2 (by rw [e]))).2] at this; unfold mo_s mo_r at this; first | (rw [if_pos c_54] at this; exact this) | (rw [if_neg c_54] at this; exact this)) ?_
      exact mi_ret_d okX9_seekFrom rfl rfl ⟨by rw [dr_sk, if_neg (fun e => c_2 (by rw [e])), ← ((mo_r_ok hj).2.2.resolve_left (fun e => c_2 (by rw [e]))).2, mo_s, mo_r, if_neg c_54], rfl⟩
  · refine mi_blk okX9_seekFrom 1 (pc' := 6) (lv' := [(0, .int (nI 0)), (1, .int (nI j))]) (st' := [.double FP.dconst0]) rfl ?_
    exact mi_ret_d okX9_seekFrom rfl rfl ⟨by rw [dr_sk, if_pos (nI_inj (by decide) (by omega) c_2)], rfl⟩
set_option maxHeartbeats 4000000 in
set_option maxRecDepth 100000 in
theorem m_seek {X : mi_X} {h : mi_H} {M : Nat} (hw : mo_W M h) (hc : h.2 M = mo_c M 0 mo_0) {k : Nat} (hk : k < 240) : mi_S pP X kX9_seek 2 [.ref M, .int (nI k)] h 0 0 (fun r h1 => r = some (.double (dr_sk 0 k)) ∧ mp M h 0 h1) := by
  refine enX9_seek (Nat.le_of_ble_eq_true rfl) ?_
  refine mi_blk okX9_seek 2 (pc' := 2) (lv' := [(0, .ref M), (1, .int (nI k))]) (st' := [.int (nI k), .ref M]) rfl ?_
  refine mi_callS okX9_seek (mc := 0) (ms := 0) (mc' := 0) (ms' := 0) (As := [.int (nI k)]) (st := [.ref M]) rfl cs_RX9_166 rfl (by decide) (Nat.le_of_ble_eq_true rfl) (m_isNoSector_0 hk) (fun r h1 q => ?_)
  obtain ⟨rfl, e9⟩ := q; have e9 := e9.symm; subst e9
  change mi_WX _ pP X kX9_seek 2 0 0 5 [(0, .ref M), (1, .int (nI k))] [.int 0, .ref M] h _
  refine mi_blk okX9_seek 1 (pc' := 6) (lv' := [(0, .ref M), (1, .int (nI k))]) (st' := [.int 1, .int 0, .ref M]) rfl ?_
  refine mi_callV okX9_seek (mc := 0) (ms := 0) (mc' := 0) (ms' := 0) (b := M) (As := [.int 0, .int 1]) (st := []) rfl cv_RX9_130 rfl (by decide) (show 6 ≤ _ by have := hw.1; omega) (show _ < h.1 by have := hw.1; omega) hc rfl (Nat.le_of_ble_eq_true rfl) (m_start_0 (h := h) (u := (0, 0, 0, 4, 0, 0, 0, 0, 0)) (show 6 ≤ _ by have := hw.1; omega) (show _ < h.1 by have := hw.1; omega) hc) (fun r h1 q => ?_)
  obtain ⟨rfl, e9⟩ := q; subst e9
  change mi_WX _ pP X kX9_seek 2 0 0 9 [(0, .ref M), (1, .int (nI k))] [.int 0] (mi_set h M (.inr (9, [.int 0, .ref (M + 1), .ref (M + 2), .ref (M + 3), .ref (M + 4), .int 0, .int 0, .int 0, .int 4, .ref (M + 5), .int 0, .double 0, .int 0, .int 0, .int 0]))) _
  refine mi_if_eq okX9_seek rfl rfl (fun c_9 => ?_) (fun c_9 => absurd (by decide) c_9)
  refine mi_blk okX9_seek 1 (pc' := 17) (lv' := [(0, .ref M), (1, .int (nI k))]) (st' := [.ref M]) rfl ?_
  refine mi_getf okX9_seek rfl fg_RX9_201 (show 6 ≤ _ by have := hw.1; omega) (show _ < h.1 by have := hw.1; omega) mi_set_self (v := .int 0) rfl ?_
  refine mi_blk okX9_seek 1 (pc' := 21) (lv' := [(0, .ref M), (1, .int (nI k))]) (st' := [.int (nI k), .int 0]) rfl ?_
  refine mi_callS okX9_seek (mc := 0) (ms := 0) (mc' := 0) (ms' := 0) (As := [.int 0, .int (nI k)]) (st := []) rfl cs_RX9_204 rfl (by decide) (Nat.le_of_ble_eq_true rfl) (show mi_S pP X kX9_seekFrom 1 [.int 0, .int (nI k)] _ 0 0 _ from m_seekFrom hk) (fun r h1 q => ?_)
  obtain ⟨rfl, e9⟩ := q; have e9 := e9.symm; subst e9
  change mi_WX _ pP X kX9_seek 2 0 0 24 [(0, .ref M), (1, .int (nI k))] [.double (dr_sk 0 k)] (mi_set h M (.inr (9, [.int 0, .ref (M + 1), .ref (M + 2), .ref (M + 3), .ref (M + 4), .int 0, .int 0, .int 0, .int 4, .ref (M + 5), .int 0, .double 0, .int 0, .int 0, .int 0]))) _
  exact mi_ret_d okX9_seek rfl rfl ⟨rfl, mp.set (0, 0, 0, 4, 0, 0, 0, 0, 0)⟩
set_option maxHeartbeats 4000000 in
set_option maxRecDepth 100000 in
theorem m_angle {X : mi_X} {h : mi_H} {M : Nat} (hw : mo_W M h) (hc : h.2 M = mo_c M 0 mo_0) {k : Nat} (hk : k < 240) : mi_S pP X kX9_angle 2 [.ref M, .int (nI k)] h 0 0 (fun r h1 => r = some (.double (sp_ang (nI k))) ∧ mp M h 0 h1) := by
  refine enX9_angle (Nat.le_of_ble_eq_true rfl) ?_
  refine mi_blk okX9_angle 2 (pc' := 2) (lv' := [(0, .ref M), (1, .int (nI k))]) (st' := [.int (nI k), .ref M]) rfl ?_
  refine mi_callS okX9_angle (mc := 0) (ms := 0) (mc' := 0) (ms' := 0) (As := [.int (nI k)]) (st := [.ref M]) rfl cs_RX9_166 rfl (by decide) (Nat.le_of_ble_eq_true rfl) (m_isNoSector_0 hk) (fun r h1 q => ?_)
  obtain ⟨rfl, e9⟩ := q; have e9 := e9.symm; subst e9
  change mi_WX _ pP X kX9_angle 2 0 0 5 [(0, .ref M), (1, .int (nI k))] [.int 0, .ref M] h _
  refine mi_blk okX9_angle 1 (pc' := 6) (lv' := [(0, .ref M), (1, .int (nI k))]) (st' := [.int 1, .int 0, .ref M]) rfl ?_
  refine mi_callV okX9_angle (mc := 0) (ms := 0) (mc' := 0) (ms' := 0) (b := M) (As := [.int 0, .int 1]) (st := []) rfl cv_RX9_130 rfl (by decide) (show 6 ≤ _ by have := hw.1; omega) (show _ < h.1 by have := hw.1; omega) hc rfl (Nat.le_of_ble_eq_true rfl) (m_start_0 (h := h) (u := (0, 0, 0, 4, 0, 0, 0, 0, 0)) (show 6 ≤ _ by have := hw.1; omega) (show _ < h.1 by have := hw.1; omega) hc) (fun r h1 q => ?_)
  obtain ⟨rfl, e9⟩ := q; subst e9
  change mi_WX _ pP X kX9_angle 2 0 0 9 [(0, .ref M), (1, .int (nI k))] [.int 0] (mi_set h M (.inr (9, [.int 0, .ref (M + 1), .ref (M + 2), .ref (M + 3), .ref (M + 4), .int 0, .int 0, .int 0, .int 4, .ref (M + 5), .int 0, .double 0, .int 0, .int 0, .int 0]))) _
  refine mi_if_eq okX9_angle rfl rfl (fun c_9 => ?_) (fun c_9 => absurd (by decide) c_9)
  refine mi_blk okX9_angle 1 (pc' := 17) (lv' := [(0, .ref M), (1, .int (nI k))]) (st' := [.int (nI k)]) rfl ?_
  refine mi_callS okX9_angle (mc := 0) (ms := 0) (mc' := 0) (ms' := 0) (As := [.int (nI k)]) (st := []) rfl cs_RX9_174 rfl (by decide) (Nat.le_of_ble_eq_true rfl) (m_angleOf hk) (fun r h1 q => ?_)
  obtain ⟨rfl, e9⟩ := q; have e9 := e9.symm; subst e9
  change mi_WX _ pP X kX9_angle 2 0 0 20 [(0, .ref M), (1, .int (nI k))] [.double (sp_ang (nI k))] (mi_set h M (.inr (9, [.int 0, .ref (M + 1), .ref (M + 2), .ref (M + 3), .ref (M + 4), .int 0, .int 0, .int 0, .int 4, .ref (M + 5), .int 0, .double 0, .int 0, .int 0, .int 0]))) _
  exact mi_ret_d okX9_angle rfl rfl ⟨rfl, mp.set (0, 0, 0, 4, 0, 0, 0, 0, 0)⟩
