-- the law's own small methods
theorem irem_nI {x : Int32} {n : Nat} (h0 : 0 < n) (hn : n < 2147483648) : ∃ j, j < n ∧ (x &&& 2147483647) - (x &&& 2147483647) / nI n * nI n = nI j := by
  have h : ¬ (x &&& 2147483647) < 0 := by
    intro z
    have z := Int32.lt_iff_toInt_lt.mp z
    rw [show (0 : Int32).toInt = 0 by decide] at z
    have hm : (x &&& 2147483647).toBitVec.msb = false := by
      rw [BitVec.msb_eq_getLsbD_last, Int32.toBitVec_and, BitVec.getLsbD_and, show (2147483647 : Int32).toBitVec.getLsbD (32 - 1) = false by decide]
      simp
    have := BitVec.toInt_eq_toNat_of_msb hm
    have e : (x &&& 2147483647).toInt = (x &&& 2147483647).toBitVec.toInt := rfl
    omega
  obtain ⟨a, ha, e⟩ := nI_of h
  rw [e]
  exact ⟨a % n, Nat.mod_lt _ h0, pk_rem (by omega) h0 (by omega)⟩
theorem nI_ne' {n : Nat} (h0 : 0 < n) (hn : n < 2147483648) : ¬ nI n = 0 := nI_ne0 h0 (by omega)
set_option maxHeartbeats 4000000 in
set_option maxRecDepth 100000 in
theorem c_below {X : mi_X} {h : mi_H} {x : Int32} {n : Nat} (h0 : 0 < n) (hn : n < 2147483648) : mi_S pP X kL_below 0 [.int x, .int (nI n)] h 0 0 (fun r h1 => ∃ j, j < n ∧ r = some (.int (nI j)) ∧ h1 = h) := by
  refine enL_below (Nat.le_of_ble_eq_true rfl) ?_
  refine mi_blk okL_below 1 (pc' := 1) (lv' := [(0, .int x), (1, .int (nI n))]) (st' := [.int x]) rfl ?_
  refine mi_ldc okL_below (v := (2147483647 : Int32)) rfl kc_RL_7 ?_
  refine mi_blk okL_below 2 (pc' := 5) (lv' := [(0, .int x), (1, .int (nI n))]) (st' := [.int (nI n), .int (x &&& (2147483647 : Int32))]) rfl ?_
  refine mi_irem okL_below rfl (nI_ne' h0 hn) ?_
  exact mi_ret_i okL_below rfl rfl rfl (by obtain ⟨j, h1, h2⟩ := irem_nI (x := x) h0 hn; exact ⟨j, h1, by rw [h2], rfl⟩)
set_option maxHeartbeats 4000000 in
set_option maxRecDepth 100000 in
theorem c_cell {X : mi_X} (hX0 : (X 0).1 < 100000) {h : mi_H} {i : Nat} (hi : i < 100000) : mi_S pP X kL_cell 0 [.ref 0, .int (nI i)] h 0 0 (fun r h1 => ∃ v, r = some (.int v) ∧ h1 = h) := by
  refine enL_cell (Nat.le_of_ble_eq_true rfl) ?_
  refine mi_blk okL_cell 2 (pc' := 2) (lv' := [(0, .ref 0), (1, .int (nI i))]) (st' := [.ref 0, .int (nI i)]) rfl ?_
  refine mi_xlen okL_cell (a := 0) rfl (by decide) ?_
  refine mi_ic_ge okL_cell rfl rfl (fun c_3 => ?_) (fun c_3 => ?_)
  · refine mi_ldc okL_cell (v := (790386105 : Int32)) rfl kc_RL_8 ?_
    refine mi_blk okL_cell 4 (pc' := 18) (lv' := [(0, .ref 0), (1, .int (nI i))]) (st' := [.int ((790386105 : Int32) * ((nI i) + 3))]) rfl ?_
    exact mi_ret_i okL_cell rfl rfl rfl ⟨_, rfl, rfl⟩
  · refine mi_blk okL_cell 2 (pc' := 8) (lv' := [(0, .ref 0), (1, .int (nI i))]) (st' := [.int (nI i), .ref 0]) rfl ?_
    refine mi_xld okL_cell (a := 0) (i := nI i) rfl (by decide) (vp_in_lt ?_ (by omega)) ?_
    · exact Nat.lt_of_not_le fun z => c_3 (nI_le (a := (X 0).1) (b := i) z (by omega))
    refine mi_blk okL_cell 1 (pc' := 18) (lv' := [(0, .ref 0), (1, .int (nI i))]) (st' := [.int ((X 0).2 (nI i).toNatClampNeg)]) rfl ?_
    exact mi_ret_i okL_cell rfl rfl rfl ⟨_, rfl, rfl⟩
theorem nib_ok (v : Int32) {j : Nat} (hj : j < 16) : okm ((v.toInt64 &&& 4294967295) ||| mi_lshl (nI j).toInt64 32) := by
  intro i hi h36
  rw [Int64.toBitVec_or, BitVec.getLsbD_or, Int64.toBitVec_and, BitVec.getLsbD_and]
  have e1 : (4294967295 : Int64).toBitVec.getLsbD i = false := by
    show (BitVec.ofNat 64 4294967295).getLsbD i = false
    rw [BitVec.getLsbD_ofNat, show (4294967295 : Nat) = 2 ^ 32 - 1 by decide, Nat.testBit_two_pow_sub_one]
    simp [show ¬ i < 32 by omega]
  have e2 : (mi_lshl (nI j).toInt64 32).toBitVec.getLsbD i = false := by
    unfold mi_lshl
    rw [Int64.toBitVec_shiftLeft, BitVec.shiftLeft_eq', show (((32 : Int32).toInt64 &&& 63).toBitVec.smod 64).toNat = 32 by decide, BitVec.getLsbD_shiftLeft, nI_l (by omega)]
    have : (lN j).toBitVec.getLsbD (i - 32) = false := by
      show (BitVec.ofNat 64 j).getLsbD (i - 32) = false
      rw [BitVec.getLsbD_ofNat, Nat.testBit_lt_two_pow (Nat.lt_of_lt_of_le hj (show 2 ^ 4 ≤ 2 ^ (i - 32) from Nat.pow_le_pow_right (by decide) (by omega)))]
      simp
    rw [this]
    simp
  rw [e1, e2]
  simp
theorem okm_ge {m : Int64} (h : okm m) : ¬ lg_cmp m 0 < 0 ∧ lg_cmp m (68719476735 : Int64) ≤ 0 := by
  have hn : m.toBitVec.toNat < 2 ^ 36 := by
    refine Nat.lt_pow_two_of_testBit _ fun i hi => ?_
    rw [BitVec.testBit_toNat]
    by_cases c : i < 64
    · exact h i c hi
    · exact BitVec.getLsbD_of_ge _ _ (by omega)
  have hi : m.toInt = (m.toBitVec.toNat : Int) := by
    show m.toBitVec.toInt = _
    rw [BitVec.toInt_eq_toNat_cond, if_pos (by omega)]
  unfold lg_cmp
  have a0 : ¬ m < 0 := fun z => by
    have := Int64.lt_iff_toInt_lt.mp z
    rw [show (0 : Int64).toInt = 0 by decide] at this
    omega
  have a1 : ¬ (68719476735 : Int64) < m := fun z => by
    have := Int64.lt_iff_toInt_lt.mp z
    rw [show (68719476735 : Int64).toInt = 68719476735 by decide] at this
    omega
  constructor
  · split
    · decide
    · split
      · decide
      · rename_i b c
        exfalso
        have h1 : m.toInt = 0 := by
          have : ¬ (0 : Int) < m.toInt := fun z => b (Int64.lt_iff_toInt_lt.mpr (by rw [show (0 : Int64).toInt = 0 by decide]; exact z))
          omega
        exact c (Int64.toInt_inj.mp (by rw [h1]; decide))
  · split
    · rename_i b
      exact absurd b a1
    · split
      · decide
      · decide

set_option maxHeartbeats 4000000 in
set_option maxRecDepth 100000 in
theorem c_nibL {X : mi_X} (hX0 : (X 0).1 < 100000) {h : mi_H} {i : Nat} (hi : i + 1 < 100000) : mi_S pP X kL_nibbles 1 [.ref 0, .int (nI i)] h 0 0 (fun r h1 => ∃ m, okm m ∧ r = some (.long m) ∧ h1 = h) := by
  refine enL_nibbles (Nat.le_of_ble_eq_true rfl) ?_
  refine mi_blk okL_nibbles 2 (pc' := 2) (lv' := [(0, .ref 0), (1, .int (nI i))]) (st' := [.int (nI i), .ref 0]) rfl ?_
  refine mi_callS okL_nibbles (mc := 0) (ms := 0) (mc' := 0) (ms' := 0) (As := [.ref 0, .int (nI i)]) (st := []) rfl cs_RL_9 rfl (by decide) (Nat.le_of_ble_eq_true rfl) (c_cell hX0 (i := i) (by omega)) (fun r h1 q => ?_)
  obtain ⟨v, rfl, e9⟩ := q; have e9 := e9.symm; subst e9
  change mi_W pP X kL_nibbles 1 0 0 5 [(0, .ref 0), (1, .int (nI i))] [.int v] h _
  refine mi_blk okL_nibbles 1 (pc' := 6) (lv' := [(0, .ref 0), (1, .int (nI i))]) (st' := [.long v.toInt64]) rfl ?_
  refine mi_ldc2 okL_nibbles (v := (4294967295 : Int64)) rfl kc_RL_15 ?_
  refine mi_blk okL_nibbles 5 (pc' := 14) (lv' := [(0, .ref 0), (1, .int (nI i))]) (st' := [.int ((nI i) + 1), .ref 0, .long (v.toInt64 &&& (4294967295 : Int64))]) rfl ?_
  rw [show nI i + 1 = nI (i + 1) from (nI_succ i).symm]
  refine mi_callS okL_nibbles (mc := 0) (ms := 0) (mc' := 0) (ms' := 0) (As := [.ref 0, .int (nI (i + 1))]) (st := [.long (v.toInt64 &&& (4294967295 : Int64))]) rfl cs_RL_9 rfl (by decide) (Nat.le_of_ble_eq_true rfl) (c_cell hX0 (i := i + 1) (by omega)) (fun r h1 q => ?_)
  obtain ⟨u, rfl, e9⟩ := q; have e9 := e9.symm; subst e9
  change mi_W pP X kL_nibbles 1 0 0 17 [(0, .ref 0), (1, .int (nI i))] [.int u, .long (v.toInt64 &&& (4294967295 : Int64))] h _
  refine mi_blk okL_nibbles 3 (pc' := 21) (lv' := [(0, .ref 0), (1, .int (nI i))]) (st' := [.int 16, .int (u + (nI i)), .long (v.toInt64 &&& (4294967295 : Int64))]) rfl ?_
  refine mi_callS okL_nibbles (mc := 0) (ms := 0) (mc' := 0) (ms' := 0) (As := [.int (u + (nI i)), .int 16]) (st := [.long (v.toInt64 &&& (4294967295 : Int64))]) rfl cs_RL_17 rfl (by decide) (Nat.le_of_ble_eq_true rfl) (c_below (x := u + (nI i)) (n := 16) (by decide) (by decide)) (fun r h1 q => ?_)
  obtain ⟨j, hj, rfl, e9⟩ := q; have e9 := e9.symm; subst e9
  change mi_W pP X kL_nibbles 1 0 0 24 [(0, .ref 0), (1, .int (nI i))] [.int (nI j), .long (v.toInt64 &&& (4294967295 : Int64))] h _
  refine mi_blk okL_nibbles 4 (pc' := 29) (lv' := [(0, .ref 0), (1, .int (nI i))]) (st' := [.long ((v.toInt64 &&& (4294967295 : Int64)) ||| (mi_lshl ((nI j).toInt64) 32))]) rfl ?_
  exact mi_ret_l okL_nibbles rfl rfl ⟨_, nib_ok v hj, rfl, rfl⟩
