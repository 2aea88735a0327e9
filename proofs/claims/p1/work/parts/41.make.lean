set_option maxHeartbeats 4000000 in
set_option maxRecDepth 100000 in
theorem c_initSector {X : mi_X} {h : mi_H} {a : Nat} {n : Int32} (hE : 6 ≤ a) (ha : a < h.1) (hc : h.2 a = .inr (6, [.int 0, .null, .int 0, .int 0, .int 0, .int 0, .long 0, .int 0, .int 0, .int 0])) : mi_S pP X kX5_init 2 [.ref a, .int n] h 1 2 (fun r h1 => r = none ∧ h1 = mi_set (mi_psh h (bl_c 0 0)) a (se_c n h.1 (0, 0, 0, 2, -1, 0, 0, 0))) := by
  refine enX5_init (Nat.le_of_ble_eq_true rfl) ?_
  refine mi_blk okX5_init 1 (pc' := 1) (lv' := [(0, .ref a), (1, .int n)]) (st' := [.ref a]) rfl ?_
  refine mi_objInit okX5_init rfl ob_RX5_3 ob_i ob_c (by decide) (Nat.le_of_ble_eq_true rfl) ?_
  refine mi_blk okX5_init 1 (pc' := 5) (lv' := [(0, .ref a), (1, .int n)]) (st' := [.ref a]) rfl ?_
  refine mi_new okX5_init (mc := 0) (ms := 0) (ci := 2) (fs := [.long 0, .int 0]) rfl cfX1 cl_RX5_9 it_RX1 iz_RX1 (by decide +kernel) (fun _ => rfl) ?_
  change mi_W pP X kX5_init 2 0 0 8 [(0, .ref a), (1, .int n)] [.ref h.1, .ref a] (mi_psh h (.inr (2, [.long 0, .int 0]))) _
  refine mi_blk okX5_init 1 (pc' := 9) (lv' := [(0, .ref a), (1, .int n)]) (st' := [.ref h.1, .ref h.1, .ref a]) rfl ?_
  refine mi_callI okX5_init (mc := 0) (ms := 0) (mc' := 0) (ms' := 0) (b := h.1) (As := []) (st := [.ref h.1, .ref a]) rfl ci_RX5_11 rfl (by decide) (Nat.le_of_ble_eq_true rfl) (c_initBlock (h := mi_psh h (.inr (2, [.long 0, .int 0]))) (by omega) (Nat.lt_succ_self _) mi_psh_self) (fun r h1 q => ?_)
  obtain ⟨rfl, e9⟩ := q; have e9 := e9.symm; subst e9
  change mi_W pP X kX5_init 2 0 0 12 [(0, .ref a), (1, .int n)] [.ref h.1, .ref a] (mi_set (mi_psh h (.inr (2, [.long 0, .int 0]))) h.1 (.inr (2, [.long 0, .int 0]))) _
  rw [mi_set_psh]
  refine mi_putF' okX5_init rfl fd_RX5_12 rfl hE (Nat.lt_succ_of_lt ha) ((mi_psh_lt ha).trans hc) (fs' := [.int 0, .ref h.1, .int 0, .int 0, .int 0, .int 0, .long 0, .int 0, .int 0, .int 0]) rfl (Nat.le_of_ble_eq_true rfl) rfl rfl ?_
  refine mi_blk okX5_init 2 (pc' := 17) (lv' := [(0, .ref a), (1, .int n)]) (st' := [.int 0, .ref a]) rfl ?_
  refine mi_putf' okX5_init rfl fd_RX5_18 hE (Nat.lt_succ_of_lt ha) mi_set_self (fs' := [.int 0, .ref h.1, .int 0, .int 0, .int 0, .int 0, .long 0, .int 0, .int 0, .int 0]) rfl (Nat.le_of_ble_eq_true rfl) rfl rfl ?_
  rw [mi_set_set]
  refine mi_blk okX5_init 2 (pc' := 22) (lv' := [(0, .ref a), (1, .int n)]) (st' := [.int 0, .ref a]) rfl ?_
  refine mi_putf' okX5_init rfl fd_RX5_22 hE (Nat.lt_succ_of_lt ha) mi_set_self (fs' := [.int 0, .ref h.1, .int 0, .int 0, .int 0, .int 0, .long 0, .int 0, .int 0, .int 0]) rfl (Nat.le_of_ble_eq_true rfl) rfl rfl ?_
  rw [mi_set_set]
  refine mi_blk okX5_init 2 (pc' := 27) (lv' := [(0, .ref a), (1, .int n)]) (st' := [.int 0, .ref a]) rfl ?_
  refine mi_putf' okX5_init rfl fd_RX5_25 hE (Nat.lt_succ_of_lt ha) mi_set_self (fs' := [.int 0, .ref h.1, .int 0, .int 0, .int 0, .int 0, .long 0, .int 0, .int 0, .int 0]) rfl (Nat.le_of_ble_eq_true rfl) rfl rfl ?_
  rw [mi_set_set]
  refine mi_blk okX5_init 2 (pc' := 32) (lv' := [(0, .ref a), (1, .int n)]) (st' := [.int 2, .ref a]) rfl ?_
  refine mi_putf' okX5_init rfl fd_RX5_29 hE (Nat.lt_succ_of_lt ha) mi_set_self (fs' := [.int 0, .ref h.1, .int 0, .int 0, .int 0, .int 2, .long 0, .int 0, .int 0, .int 0]) rfl (Nat.le_of_ble_eq_true rfl) rfl rfl ?_
  rw [mi_set_set]
  refine mi_blk okX5_init 1 (pc' := 36) (lv' := [(0, .ref a), (1, .int n)]) (st' := [.ref a]) rfl ?_
  refine mi_ldc2 okX5_init (v := (-1 : Int64)) rfl kc_RX5_32 ?_
  refine mi_putf' okX5_init rfl fd_RX5_34 hE (Nat.lt_succ_of_lt ha) mi_set_self (fs' := [.int 0, .ref h.1, .int 0, .int 0, .int 0, .int 2, .long (-1 : Int64), .int 0, .int 0, .int 0]) rfl (Nat.le_of_ble_eq_true rfl) rfl rfl ?_
  rw [mi_set_set]
  refine mi_blk okX5_init 2 (pc' := 44) (lv' := [(0, .ref a), (1, .int n)]) (st' := [.int 0, .ref a]) rfl ?_
  refine mi_putf' okX5_init rfl fd_RX5_38 hE (Nat.lt_succ_of_lt ha) mi_set_self (fs' := [.int 0, .ref h.1, .int 0, .int 0, .int 0, .int 2, .long (-1 : Int64), .int 0, .int 0, .int 0]) rfl (Nat.le_of_ble_eq_true rfl) rfl rfl ?_
  rw [mi_set_set]
  refine mi_blk okX5_init 2 (pc' := 49) (lv' := [(0, .ref a), (1, .int n)]) (st' := [.int 0, .ref a]) rfl ?_
  refine mi_putf' okX5_init rfl fd_RX5_41 hE (Nat.lt_succ_of_lt ha) mi_set_self (fs' := [.int 0, .ref h.1, .int 0, .int 0, .int 0, .int 2, .long (-1 : Int64), .int 0, .int 0, .int 0]) rfl (Nat.le_of_ble_eq_true rfl) rfl rfl ?_
  rw [mi_set_set]
  refine mi_blk okX5_init 2 (pc' := 54) (lv' := [(0, .ref a), (1, .int n)]) (st' := [.int 0, .ref a]) rfl ?_
  refine mi_putf' okX5_init rfl fd_RX5_44 hE (Nat.lt_succ_of_lt ha) mi_set_self (fs' := [.int 0, .ref h.1, .int 0, .int 0, .int 0, .int 2, .long (-1 : Int64), .int 0, .int 0, .int 0]) rfl (Nat.le_of_ble_eq_true rfl) rfl rfl ?_
  rw [mi_set_set]
  refine mi_blk okX5_init 2 (pc' := 59) (lv' := [(0, .ref a), (1, .int n)]) (st' := [.int n, .ref a]) rfl ?_
  refine mi_putF' okX5_init rfl fd_RX5_47 rfl hE (Nat.lt_succ_of_lt ha) mi_set_self (fs' := [.int n, .ref h.1, .int 0, .int 0, .int 0, .int 2, .long (-1 : Int64), .int 0, .int 0, .int 0]) rfl (Nat.le_of_ble_eq_true rfl) rfl rfl ?_
  rw [mi_set_set]
  exact mi_ret_v okX5_init rfl rfl ⟨rfl, rfl⟩
set_option maxHeartbeats 4000000 in
set_option maxRecDepth 100000 in
theorem c_initBench {X : mi_X} {h : mi_H} {a : Nat} (hE : 6 ≤ a) (ha : a < h.1) (hc : h.2 a = .inr (1, [.null, .null])) : mi_S pP X kX0_init 2 [.ref a] h 2 6 (fun r h1 => r = none ∧ h1 = mi_set (mi_psh (mi_set (mi_psh h (.inr (2, [.long 0, .int 0]))) a (.inr (1, [.ref h.1, .null]))) (.inr (5, [.int 1, .int 0, .int 0, .int 0]))) a (.inr (1, [.ref h.1, .ref (h.1 + 1)]))) := by
  refine enX0_init (Nat.le_of_ble_eq_true rfl) ?_
  refine mi_blk okX0_init 1 (pc' := 1) (lv' := [(0, .ref a)]) (st' := [.ref a]) rfl ?_
  refine mi_objInit okX0_init rfl ob_RX0_1 ob_i ob_c (by decide) (Nat.le_of_ble_eq_true rfl) ?_
  refine mi_blk okX0_init 1 (pc' := 5) (lv' := [(0, .ref a)]) (st' := [.ref a]) rfl ?_
  refine mi_new okX0_init (mc := 1) (ms := 4) (ci := 2) (fs := [.long 0, .int 0]) rfl cfX1 cl_RX0_7 it_RX1 iz_RX1 (by decide +kernel) (fun _ => rfl) ?_
  change mi_W pP X kX0_init 2 1 4 8 [(0, .ref a)] [.ref h.1, .ref a] (mi_psh h (.inr (2, [.long 0, .int 0]))) _
  refine mi_blk okX0_init 1 (pc' := 9) (lv' := [(0, .ref a)]) (st' := [.ref h.1, .ref h.1, .ref a]) rfl ?_
  refine mi_callI okX0_init (mc := 1) (ms := 4) (mc' := 0) (ms' := 0) (b := h.1) (As := []) (st := [.ref h.1, .ref a]) rfl ci_RX0_9 rfl (by decide) (Nat.le_of_ble_eq_true rfl) (c_initBlock (h := mi_psh h (.inr (2, [.long 0, .int 0]))) (by omega) (Nat.lt_succ_self _) mi_psh_self) (fun r h1 q => ?_)
  obtain ⟨rfl, e9⟩ := q; have e9 := e9.symm; subst e9
  change mi_W pP X kX0_init 2 1 4 12 [(0, .ref a)] [.ref h.1, .ref a] (mi_set (mi_psh h (.inr (2, [.long 0, .int 0]))) h.1 (.inr (2, [.long 0, .int 0]))) _
  rw [mi_set_psh]
  refine mi_putF' okX0_init rfl fd_RX0_10 rfl hE (Nat.lt_succ_of_lt ha) ((mi_psh_lt ha).trans hc) (fs' := [.ref h.1, .null]) rfl (Nat.le_of_ble_eq_true rfl) rfl rfl ?_
  refine mi_blk okX0_init 1 (pc' := 16) (lv' := [(0, .ref a)]) (st' := [.ref a]) rfl ?_
  refine mi_new okX0_init (mc := 0) (ms := 0) (ci := 5) (fs := [.int 0, .int 0, .int 0, .int 0]) rfl cfX4 cl_RX0_16 it_RX4 iz_RX4 (by decide +kernel) (fun _ => rfl) ?_
  change mi_W pP X kX0_init 2 0 0 19 [(0, .ref a)] [.ref (h.1 + 1), .ref a] (mi_psh (mi_set (mi_psh h (.inr (2, [.long 0, .int 0]))) a (.inr (1, [.ref h.1, .null]))) (.inr (5, [.int 0, .int 0, .int 0, .int 0]))) _
  refine mi_blk okX0_init 1 (pc' := 20) (lv' := [(0, .ref a)]) (st' := [.ref (h.1 + 1), .ref (h.1 + 1), .ref a]) rfl ?_
  refine mi_callI okX0_init (mc := 0) (ms := 0) (mc' := 0) (ms' := 0) (b := (h.1 + 1)) (As := []) (st := [.ref (h.1 + 1), .ref a]) rfl ci_RX0_18 rfl (by decide) (Nat.le_of_ble_eq_true rfl) (c_initMarks (h := mi_psh (mi_set (mi_psh h (.inr (2, [.long 0, .int 0]))) a (.inr (1, [.ref h.1, .null]))) (.inr (5, [.int 0, .int 0, .int 0, .int 0]))) (by omega) (Nat.lt_succ_self _) mi_psh_self) (fun r h1 q => ?_)
  obtain ⟨rfl, e9⟩ := q; have e9 := e9.symm; subst e9
  change mi_W pP X kX0_init 2 0 0 23 [(0, .ref a)] [.ref (h.1 + 1), .ref a] (mi_set (mi_psh (mi_set (mi_psh h (.inr (2, [.long 0, .int 0]))) a (.inr (1, [.ref h.1, .null]))) (.inr (5, [.int 0, .int 0, .int 0, .int 0]))) (h.1 + 1) (.inr (5, [.int 1, .int 0, .int 0, .int 0]))) _
  rw [show mi_set (mi_psh (mi_set (mi_psh h (.inr (2, [.long 0, .int 0]))) a (.inr (1, [.ref h.1, .null]))) (.inr (5, [.int 0, .int 0, .int 0, .int 0]))) (h.1 + 1) (.inr (5, [.int 1, .int 0, .int 0, .int 0])) = mi_psh (mi_set (mi_psh h (.inr (2, [.long 0, .int 0]))) a (.inr (1, [.ref h.1, .null]))) (.inr (5, [.int 1, .int 0, .int 0, .int 0])) from mi_set_psh]
  refine mi_putF' okX0_init rfl fd_RX0_19 rfl hE (Nat.lt_succ_of_lt (Nat.lt_succ_of_lt ha)) ((mi_psh_lt (Nat.lt_succ_of_lt ha)).trans mi_set_self) (fs' := [.ref h.1, .ref (h.1 + 1)]) rfl (Nat.le_of_ble_eq_true rfl) rfl rfl ?_
  exact mi_ret_v okX0_init rfl rfl ⟨rfl, rfl⟩
