section PHS
variable {QX : Nat → Nat → mi_H → Prop} {X : mi_X} {k d mc ms pc : Nat} {lv : mi_L} {st : List Value} {h : mi_H} {Q : Option Value → mi_H → Prop} {tb : List (Nat × Instr)} {B : Nat} {q : ph_T} {fi le : Nat → Nat → Int32}
theorem ph_aaL (ht : mi_tb (pP.2.2.2.1 k).2.1 tb) {s : Nat} (hi : mi_at tb pc = some .aaload) (hw : ph_W B q fi le h) (hs : s < 10) (kk : mi_WX QX pP X k d mc ms (pc + 1) lv (.ref (B + 16 + s) :: st) h Q) : mi_WX QX pP X k d mc ms pc lv (.int (nI s) :: .ref (B + 15) :: st) h Q := by
  obtain ⟨f, f1, f2⟩ := hw.len
  have hz := hw.z
  refine mi_aaldA ht (t := 3) hi rfl (show 6 ≤ B + 15 by omega) (by omega) f1 (vp_in_lt hs (by decide)) ?_
  rw [nI_clamp (by omega), f2 s hs]
  exact kk
theorem ph_iaL (ht : mi_tb (pP.2.2.2.1 k).2.1 tb) {s j : Nat} (hi : mi_at tb pc = some .iaload) (hw : ph_W B q fi le h) (hs : s < 10) (hj : j < 3) (kk : mi_WX QX pP X k d mc ms (pc + 1) lv (.int (le s j) :: st) h Q) : mi_WX QX pP X k d mc ms pc lv (.int (nI j) :: .ref (B + 16 + s) :: st) h Q := by
  have hz := hw.z
  refine mi_iald ht (t := 0) hi rfl (show 6 ≤ B + 16 + s by omega) (by omega) (hw.les s hs) (vp_in_lt hj (by decide)) ?_
  rw [nI_clamp (by omega)]
  exact kk
end PHS
set_option maxHeartbeats 4000000 in
set_option maxRecDepth 100000 in
theorem l_teller {X : mi_X} {h : mi_H} {B : Nat} {q : ph_T} {fi le : Nat → Nat → Int32} (hw : ph_W B q fi le h) (hle : ∀ i, i < 10 → ∀ s, s < 3 → le i s = 0) {i : Nat} (hi : i < 10) {s0 : Int32} {Q : Option Value → mi_H → Prop} (hQ : Q (some (.int (-1))) h) : ∀ t, t < 3 → mi_W pP X kX3_tellerOf 0 0 0 2 [(3, .int (nI t)), (0, .ref (B + 3)), (1, .int (nI i)), (2, .int s0)] [] h Q := by
  intro t
  induction t with
  | zero =>
    intro ht
    refine mi_blk okX3_tellerOf 1 (pc' := 3) (lv' := [(3, .int (nI 0)), (0, .ref (B + 3)), (1, .int (nI i)), (2, .int s0)]) (st' := [.int (nI 0)]) rfl ?_
    refine mi_if_lt okX3_tellerOf rfl rfl (fun c_3 => absurd c_3 (nI_pos (by omega))) (fun c_3 => ?_)
    refine mi_blk okX3_tellerOf 1 (pc' := 7) (lv' := [(3, .int (nI 0)), (0, .ref (B + 3)), (1, .int (nI i)), (2, .int s0)]) (st' := [.ref (B + 3)]) rfl ?_
    refine mi_getf okX3_tellerOf rfl fg_RX3_16 (show 6 ≤ _ by have := hw.z; omega) (show _ < h.1 by have := hw.z; omega) hw.fil (v := .ref (B + 15)) rfl ?_
    refine mi_blk okX3_tellerOf 1 (pc' := 11) (lv' := [(3, .int (nI 0)), (0, .ref (B + 3)), (1, .int (nI i)), (2, .int s0)]) (st' := [.int (nI i), .ref (B + 15)]) rfl ?_
    refine ph_aaL okX3_tellerOf rfl hw hi ?_
    refine mi_blk okX3_tellerOf 1 (pc' := 13) (lv' := [(3, .int (nI 0)), (0, .ref (B + 3)), (1, .int (nI i)), (2, .int s0)]) (st' := [.int (nI 0), .ref (B + 16 + i)]) rfl ?_
    refine ph_iaL okX3_tellerOf rfl hw hi (j := 0) ht ?_
    refine mi_if_le okX3_tellerOf rfl rfl (fun c_14 => ?_) (fun c_14 => absurd (by rw [hle i hi 0 ht]; decide) c_14)
    refine mi_blk okX3_tellerOf 2 (pc' := 2) (lv' := [(3, .int ((nI 0) + (-1))), (0, .ref (B + 3)), (1, .int (nI i)), (2, .int s0)]) (st' := []) rfl ?_
    have e : nI 0 + (-1) = -1 := by decide
    rw [e]
    refine mi_blk okX3_tellerOf 1 (pc' := 3) (lv' := [(3, .int (-1)), (0, .ref (B + 3)), (1, .int (nI i)), (2, .int s0)]) (st' := [.int (-1)]) rfl ?_
    refine mi_if_lt okX3_tellerOf rfl rfl (fun c_3 => ?_) (fun c_3 => absurd (by decide) c_3)
    refine mi_blk okX3_tellerOf 1 (pc' := 26) (lv' := [(3, .int (-1)), (0, .ref (B + 3)), (1, .int (nI i)), (2, .int s0)]) (st' := [.int (-1)]) rfl ?_
    exact mi_ret_i okX3_tellerOf rfl rfl rfl hQ
  | succ t ih =>
    intro ht
    refine mi_blk okX3_tellerOf 1 (pc' := 3) (lv' := [(3, .int (nI (t + 1))), (0, .ref (B + 3)), (1, .int (nI i)), (2, .int s0)]) (st' := [.int (nI (t + 1))]) rfl ?_
    refine mi_if_lt okX3_tellerOf rfl rfl (fun c_3 => absurd c_3 (nI_pos (by omega))) (fun c_3 => ?_)
    refine mi_blk okX3_tellerOf 1 (pc' := 7) (lv' := [(3, .int (nI (t + 1))), (0, .ref (B + 3)), (1, .int (nI i)), (2, .int s0)]) (st' := [.ref (B + 3)]) rfl ?_
    refine mi_getf okX3_tellerOf rfl fg_RX3_16 (show 6 ≤ _ by have := hw.z; omega) (show _ < h.1 by have := hw.z; omega) hw.fil (v := .ref (B + 15)) rfl ?_
    refine mi_blk okX3_tellerOf 1 (pc' := 11) (lv' := [(3, .int (nI (t + 1))), (0, .ref (B + 3)), (1, .int (nI i)), (2, .int s0)]) (st' := [.int (nI i), .ref (B + 15)]) rfl ?_
    refine ph_aaL okX3_tellerOf rfl hw hi ?_
    refine mi_blk okX3_tellerOf 1 (pc' := 13) (lv' := [(3, .int (nI (t + 1))), (0, .ref (B + 3)), (1, .int (nI i)), (2, .int s0)]) (st' := [.int (nI (t + 1)), .ref (B + 16 + i)]) rfl ?_
    refine ph_iaL okX3_tellerOf rfl hw hi (j := t + 1) ht ?_
    refine mi_if_le okX3_tellerOf rfl rfl (fun c_14 => ?_) (fun c_14 => absurd (by rw [hle i hi (t + 1) ht]; decide) c_14)
    refine mi_blk okX3_tellerOf 2 (pc' := 2) (lv' := [(3, .int ((nI (t + 1)) + (-1))), (0, .ref (B + 3)), (1, .int (nI i)), (2, .int s0)]) (st' := []) rfl ?_
    have e : nI (t + 1) + (-1) = nI t := (by decide : ∀ t, t < 3 → nI (t + 1) + (-1) = nI t) t (by omega)
    rw [e]
    exact ih (by omega)
set_option maxHeartbeats 4000000 in
set_option maxRecDepth 100000 in
theorem c_tellerOf {X : mi_X} {h : mi_H} {B : Nat} {q : ph_T} {fi le : Nat → Nat → Int32} (hw : ph_W B q fi le h) (hle : ∀ i, i < 10 → ∀ s, s < 3 → le i s = 0) {i s : Nat} (hi : i < 10) (hs : s < 3) : mi_S pP X kX3_tellerOf 0 [.ref (B + 3), .int (nI i), .int (nI s)] h 0 0 (fun r h1 => r = some (.int (-1)) ∧ h1 = h) := by
  refine enX3_tellerOf (Nat.le_of_ble_eq_true rfl) ?_
  refine mi_blk okX3_tellerOf 2 (pc' := 2) (lv' := [(3, .int (nI s)), (0, .ref (B + 3)), (1, .int (nI i)), (2, .int (nI s))]) (st' := []) rfl ?_
  exact l_teller hw hle hi ⟨rfl, rfl⟩ s hs
set_option maxHeartbeats 4000000 in
set_option maxRecDepth 100000 in
theorem c_checkFile {X : mi_X} {h : mi_H} {i : Nat} (hi : i < 10) : mi_S pP X kX8_checkFile 0 [.int (nI i)] h 0 0 (fun r h1 => r = none ∧ h1 = h) := by
  refine enX8_checkFile (Nat.le_of_ble_eq_true rfl) ?_
  refine mi_blk okX8_checkFile 1 (pc' := 1) (lv' := [(0, .int (nI i))]) (st' := [.int (nI i)]) rfl ?_
  refine mi_if_lt okX8_checkFile rfl rfl (fun c_1 => absurd c_1 (nI_pos (by omega))) (fun c_1 => ?_)
  refine mi_blk okX8_checkFile 2 (pc' := 7) (lv' := [(0, .int (nI i))]) (st' := [.int 10, .int (nI i)]) rfl ?_
  refine mi_ic_lt okX8_checkFile rfl rfl (fun c_7 => ?_) (fun c_7 => absurd (nI_lt (a := i) (b := 10) (by omega) (by decide)) c_7)
  exact mi_ret_v okX8_checkFile rfl rfl ⟨rfl, rfl⟩
set_option maxHeartbeats 4000000 in
set_option maxRecDepth 100000 in
theorem c_ofFile_0 {X : mi_X} {h : mi_H} {B : Nat} {q : ph_T} {fi le : Nat → Nat → Int32} (hw : ph_W B q fi le h) (hle : ∀ i, i < 10 → ∀ s, s < 3 → le i s = 0) {i s : Nat} (hi : i < 10) (hs : s < 3) (hsc : nI s < q.1.1) : mi_S pP X kX8_ofFile 1 [.ref B, .int (nI i), .int (nI s), .int 0] h 0 0 (fun r h1 => r = some (.int (-1)) ∧ h1 = h) := by
  refine enX8_ofFile (Nat.le_of_ble_eq_true rfl) ?_
  refine mi_blk okX8_ofFile 1 (pc' := 1) (lv' := [(0, .ref B), (1, .int (nI i)), (2, .int (nI s)), (3, .int 0)]) (st' := [.int (nI i)]) rfl ?_
  refine mi_callS okX8_ofFile (mc := 0) (ms := 0) (mc' := 0) (ms' := 0) (As := [.int (nI i)]) (st := []) rfl cs_RX8_133 rfl (by decide) (Nat.le_of_ble_eq_true rfl) (c_checkFile hi) (fun r h1 q => ?_)
  obtain ⟨rfl, e9⟩ := q; have e9 := e9.symm; subst e9
  change mi_W pP X kX8_ofFile 1 0 0 4 [(0, .ref B), (1, .int (nI i)), (2, .int (nI s)), (3, .int 0)] [] h _
  refine mi_blk okX8_ofFile 1 (pc' := 5) (lv' := [(0, .ref B), (1, .int (nI i)), (2, .int (nI s)), (3, .int 0)]) (st' := [.int (nI s)]) rfl ?_
  refine mi_if_lt okX8_ofFile rfl rfl (fun c_5 => absurd c_5 (nI_pos (by omega))) (fun c_5 => ?_)
  refine mi_blk okX8_ofFile 2 (pc' := 10) (lv' := [(0, .ref B), (1, .int (nI i)), (2, .int (nI s)), (3, .int 0)]) (st' := [.ref B, .int (nI s)]) rfl ?_
  refine mi_getf okX8_ofFile rfl fg_RX8_42 (show 6 ≤ _ by have := hw.z; omega) (show _ < h.1 by have := hw.z; omega) hw.ph (v := .int q.1.1) rfl ?_
  refine mi_ic_lt okX8_ofFile rfl rfl (fun c_13 => ?_) (fun c_13 => absurd hsc c_13)
  refine mi_blk okX8_ofFile 1 (pc' := 28) (lv' := [(0, .ref B), (1, .int (nI i)), (2, .int (nI s)), (3, .int 0)]) (st' := [.int 0]) rfl ?_
  refine mi_if_lt okX8_ofFile rfl rfl (fun c_28 => absurd c_28 (by decide)) (fun c_28 => ?_)
  refine mi_blk okX8_ofFile 2 (pc' := 33) (lv' := [(0, .ref B), (1, .int (nI i)), (2, .int (nI s)), (3, .int 0)]) (st' := [.int 2, .int 0]) rfl ?_
  refine mi_ic_le okX8_ofFile rfl rfl (fun c_33 => ?_) (fun c_33 => absurd (by decide) c_33)
  refine mi_blk okX8_ofFile 1 (pc' := 48) (lv' := [(0, .ref B), (1, .int (nI i)), (2, .int (nI s)), (3, .int 0)]) (st' := [.ref B]) rfl ?_
  refine mi_getf okX8_ofFile rfl fg_RX8_24 (show 6 ≤ _ by have := hw.z; omega) (show _ < h.1 by have := hw.z; omega) hw.ph (v := .ref (B + 3)) rfl ?_
  refine mi_blk okX8_ofFile 2 (pc' := 53) (lv' := [(0, .ref B), (1, .int (nI i)), (2, .int (nI s)), (3, .int 0)]) (st' := [.int (nI s), .int (nI i), .ref (B + 3)]) rfl ?_
  refine mi_callV okX8_ofFile (mc := 0) (ms := 0) (mc' := 0) (ms' := 0) (b := (B + 3)) (As := [.int (nI i), .int (nI s)]) (st := []) rfl cv_RX8_276 rfl (by decide) (show 6 ≤ _ by have := hw.z; omega) (show _ < h.1 by have := hw.z; omega) hw.fil rfl (Nat.le_of_ble_eq_true rfl) (c_tellerOf hw hle hi hs) (fun r h1 q => ?_)
  obtain ⟨rfl, e9⟩ := q; have e9 := e9.symm; subst e9
  change mi_W pP X kX8_ofFile 1 0 0 56 [(0, .ref B), (1, .int (nI i)), (2, .int (nI s)), (3, .int 0)] [.int (-1)] h _
  refine mi_blk okX8_ofFile 3 (pc' := 61) (lv' := [(4, .int (-1)), (0, .ref B), (1, .int (nI i)), (2, .int (nI s)), (3, .int 0)]) (st' := [.int (-1), .int (-1)]) rfl ?_
  refine mi_ic_ne okX8_ofFile rfl rfl (fun c_61 => absurd (by decide) c_61) (fun c_61 => ?_)
  refine mi_blk okX8_ofFile 1 (pc' := 65) (lv' := [(4, .int (-1)), (0, .ref B), (1, .int (nI i)), (2, .int (nI s)), (3, .int 0)]) (st' := [.int (-1)]) rfl ?_
  exact mi_ret_i okX8_ofFile rfl rfl rfl ⟨rfl, rfl⟩
set_option maxHeartbeats 4000000 in
set_option maxRecDepth 100000 in
theorem c_ofFile_1 {X : mi_X} {h : mi_H} {B : Nat} {q : ph_T} {fi le : Nat → Nat → Int32} (hw : ph_W B q fi le h) (hle : ∀ i, i < 10 → ∀ s, s < 3 → le i s = 0) {i s : Nat} (hi : i < 10) (hs : s < 3) (hsc : nI s < q.1.1) : mi_S pP X kX8_ofFile 1 [.ref B, .int (nI i), .int (nI s), .int 1] h 0 0 (fun r h1 => r = some (.int (-1)) ∧ h1 = h) := by
  refine enX8_ofFile (Nat.le_of_ble_eq_true rfl) ?_
  refine mi_blk okX8_ofFile 1 (pc' := 1) (lv' := [(0, .ref B), (1, .int (nI i)), (2, .int (nI s)), (3, .int 1)]) (st' := [.int (nI i)]) rfl ?_
  refine mi_callS okX8_ofFile (mc := 0) (ms := 0) (mc' := 0) (ms' := 0) (As := [.int (nI i)]) (st := []) rfl cs_RX8_133 rfl (by decide) (Nat.le_of_ble_eq_true rfl) (c_checkFile hi) (fun r h1 q => ?_)
  obtain ⟨rfl, e9⟩ := q; have e9 := e9.symm; subst e9
  change mi_W pP X kX8_ofFile 1 0 0 4 [(0, .ref B), (1, .int (nI i)), (2, .int (nI s)), (3, .int 1)] [] h _
  refine mi_blk okX8_ofFile 1 (pc' := 5) (lv' := [(0, .ref B), (1, .int (nI i)), (2, .int (nI s)), (3, .int 1)]) (st' := [.int (nI s)]) rfl ?_
  refine mi_if_lt okX8_ofFile rfl rfl (fun c_5 => absurd c_5 (nI_pos (by omega))) (fun c_5 => ?_)
  refine mi_blk okX8_ofFile 2 (pc' := 10) (lv' := [(0, .ref B), (1, .int (nI i)), (2, .int (nI s)), (3, .int 1)]) (st' := [.ref B, .int (nI s)]) rfl ?_
  refine mi_getf okX8_ofFile rfl fg_RX8_42 (show 6 ≤ _ by have := hw.z; omega) (show _ < h.1 by have := hw.z; omega) hw.ph (v := .int q.1.1) rfl ?_
  refine mi_ic_lt okX8_ofFile rfl rfl (fun c_13 => ?_) (fun c_13 => absurd hsc c_13)
  refine mi_blk okX8_ofFile 1 (pc' := 28) (lv' := [(0, .ref B), (1, .int (nI i)), (2, .int (nI s)), (3, .int 1)]) (st' := [.int 1]) rfl ?_
  refine mi_if_lt okX8_ofFile rfl rfl (fun c_28 => absurd c_28 (by decide)) (fun c_28 => ?_)
  refine mi_blk okX8_ofFile 2 (pc' := 33) (lv' := [(0, .ref B), (1, .int (nI i)), (2, .int (nI s)), (3, .int 1)]) (st' := [.int 2, .int 1]) rfl ?_
  refine mi_ic_le okX8_ofFile rfl rfl (fun c_33 => ?_) (fun c_33 => absurd (by decide) c_33)
  refine mi_blk okX8_ofFile 1 (pc' := 48) (lv' := [(0, .ref B), (1, .int (nI i)), (2, .int (nI s)), (3, .int 1)]) (st' := [.ref B]) rfl ?_
  refine mi_getf okX8_ofFile rfl fg_RX8_24 (show 6 ≤ _ by have := hw.z; omega) (show _ < h.1 by have := hw.z; omega) hw.ph (v := .ref (B + 3)) rfl ?_
  refine mi_blk okX8_ofFile 2 (pc' := 53) (lv' := [(0, .ref B), (1, .int (nI i)), (2, .int (nI s)), (3, .int 1)]) (st' := [.int (nI s), .int (nI i), .ref (B + 3)]) rfl ?_
  refine mi_callV okX8_ofFile (mc := 0) (ms := 0) (mc' := 0) (ms' := 0) (b := (B + 3)) (As := [.int (nI i), .int (nI s)]) (st := []) rfl cv_RX8_276 rfl (by decide) (show 6 ≤ _ by have := hw.z; omega) (show _ < h.1 by have := hw.z; omega) hw.fil rfl (Nat.le_of_ble_eq_true rfl) (c_tellerOf hw hle hi hs) (fun r h1 q => ?_)
  obtain ⟨rfl, e9⟩ := q; have e9 := e9.symm; subst e9
  change mi_W pP X kX8_ofFile 1 0 0 56 [(0, .ref B), (1, .int (nI i)), (2, .int (nI s)), (3, .int 1)] [.int (-1)] h _
  refine mi_blk okX8_ofFile 3 (pc' := 61) (lv' := [(4, .int (-1)), (0, .ref B), (1, .int (nI i)), (2, .int (nI s)), (3, .int 1)]) (st' := [.int (-1), .int (-1)]) rfl ?_
  refine mi_ic_ne okX8_ofFile rfl rfl (fun c_61 => absurd (by decide) c_61) (fun c_61 => ?_)
  refine mi_blk okX8_ofFile 1 (pc' := 65) (lv' := [(4, .int (-1)), (0, .ref B), (1, .int (nI i)), (2, .int (nI s)), (3, .int 1)]) (st' := [.int (-1)]) rfl ?_
  exact mi_ret_i okX8_ofFile rfl rfl rfl ⟨rfl, rfl⟩
set_option maxHeartbeats 4000000 in
set_option maxRecDepth 100000 in
theorem c_ofFile_2 {X : mi_X} {h : mi_H} {B : Nat} {q : ph_T} {fi le : Nat → Nat → Int32} (hw : ph_W B q fi le h) (hle : ∀ i, i < 10 → ∀ s, s < 3 → le i s = 0) {i s : Nat} (hi : i < 10) (hs : s < 3) (hsc : nI s < q.1.1) : mi_S pP X kX8_ofFile 1 [.ref B, .int (nI i), .int (nI s), .int 2] h 0 0 (fun r h1 => r = some (.int (-1)) ∧ h1 = h) := by
  refine enX8_ofFile (Nat.le_of_ble_eq_true rfl) ?_
  refine mi_blk okX8_ofFile 1 (pc' := 1) (lv' := [(0, .ref B), (1, .int (nI i)), (2, .int (nI s)), (3, .int 2)]) (st' := [.int (nI i)]) rfl ?_
  refine mi_callS okX8_ofFile (mc := 0) (ms := 0) (mc' := 0) (ms' := 0) (As := [.int (nI i)]) (st := []) rfl cs_RX8_133 rfl (by decide) (Nat.le_of_ble_eq_true rfl) (c_checkFile hi) (fun r h1 q => ?_)
  obtain ⟨rfl, e9⟩ := q; have e9 := e9.symm; subst e9
  change mi_W pP X kX8_ofFile 1 0 0 4 [(0, .ref B), (1, .int (nI i)), (2, .int (nI s)), (3, .int 2)] [] h _
  refine mi_blk okX8_ofFile 1 (pc' := 5) (lv' := [(0, .ref B), (1, .int (nI i)), (2, .int (nI s)), (3, .int 2)]) (st' := [.int (nI s)]) rfl ?_
  refine mi_if_lt okX8_ofFile rfl rfl (fun c_5 => absurd c_5 (nI_pos (by omega))) (fun c_5 => ?_)
  refine mi_blk okX8_ofFile 2 (pc' := 10) (lv' := [(0, .ref B), (1, .int (nI i)), (2, .int (nI s)), (3, .int 2)]) (st' := [.ref B, .int (nI s)]) rfl ?_
  refine mi_getf okX8_ofFile rfl fg_RX8_42 (show 6 ≤ _ by have := hw.z; omega) (show _ < h.1 by have := hw.z; omega) hw.ph (v := .int q.1.1) rfl ?_
  refine mi_ic_lt okX8_ofFile rfl rfl (fun c_13 => ?_) (fun c_13 => absurd hsc c_13)
  refine mi_blk okX8_ofFile 1 (pc' := 28) (lv' := [(0, .ref B), (1, .int (nI i)), (2, .int (nI s)), (3, .int 2)]) (st' := [.int 2]) rfl ?_
  refine mi_if_lt okX8_ofFile rfl rfl (fun c_28 => absurd c_28 (by decide)) (fun c_28 => ?_)
  refine mi_blk okX8_ofFile 2 (pc' := 33) (lv' := [(0, .ref B), (1, .int (nI i)), (2, .int (nI s)), (3, .int 2)]) (st' := [.int 2, .int 2]) rfl ?_
  refine mi_ic_le okX8_ofFile rfl rfl (fun c_33 => ?_) (fun c_33 => absurd (by decide) c_33)
  refine mi_blk okX8_ofFile 1 (pc' := 48) (lv' := [(0, .ref B), (1, .int (nI i)), (2, .int (nI s)), (3, .int 2)]) (st' := [.ref B]) rfl ?_
  refine mi_getf okX8_ofFile rfl fg_RX8_24 (show 6 ≤ _ by have := hw.z; omega) (show _ < h.1 by have := hw.z; omega) hw.ph (v := .ref (B + 3)) rfl ?_
  refine mi_blk okX8_ofFile 2 (pc' := 53) (lv' := [(0, .ref B), (1, .int (nI i)), (2, .int (nI s)), (3, .int 2)]) (st' := [.int (nI s), .int (nI i), .ref (B + 3)]) rfl ?_
  refine mi_callV okX8_ofFile (mc := 0) (ms := 0) (mc' := 0) (ms' := 0) (b := (B + 3)) (As := [.int (nI i), .int (nI s)]) (st := []) rfl cv_RX8_276 rfl (by decide) (show 6 ≤ _ by have := hw.z; omega) (show _ < h.1 by have := hw.z; omega) hw.fil rfl (Nat.le_of_ble_eq_true rfl) (c_tellerOf hw hle hi hs) (fun r h1 q => ?_)
  obtain ⟨rfl, e9⟩ := q; have e9 := e9.symm; subst e9
  change mi_W pP X kX8_ofFile 1 0 0 56 [(0, .ref B), (1, .int (nI i)), (2, .int (nI s)), (3, .int 2)] [.int (-1)] h _
  refine mi_blk okX8_ofFile 3 (pc' := 61) (lv' := [(4, .int (-1)), (0, .ref B), (1, .int (nI i)), (2, .int (nI s)), (3, .int 2)]) (st' := [.int (-1), .int (-1)]) rfl ?_
  refine mi_ic_ne okX8_ofFile rfl rfl (fun c_61 => absurd (by decide) c_61) (fun c_61 => ?_)
  refine mi_blk okX8_ofFile 1 (pc' := 65) (lv' := [(4, .int (-1)), (0, .ref B), (1, .int (nI i)), (2, .int (nI s)), (3, .int 2)]) (st' := [.int (-1)]) rfl ?_
  exact mi_ret_i okX8_ofFile rfl rfl rfl ⟨rfl, rfl⟩
theorem c_many {X : mi_X} {h : mi_H} {B : Nat} {q : ph_T} {fi le : Nat → Nat → Int32} (hw : ph_W B q fi le h) : ∀ i, i < 13 → mi_S pP X kX8_many 1 [.ref B, .int (nI i)] h 0 0 (fun r h1 => r = some (.int (ph_mny q i)) ∧ h1 = h)
  | 0, _ => c_many_0 hw
  | 1, _ => c_many_1 hw
  | 2, _ => c_many_2 hw
  | 3, _ => c_many_3 hw
  | 4, _ => c_many_4 hw
  | 5, _ => c_many_5 hw
  | 6, _ => c_many_6 hw
  | 7, _ => c_many_7 hw
  | 8, _ => c_many_8 hw
  | 9, _ => c_many_9 hw
  | 10, _ => c_many_10 hw
  | 11, _ => c_many_11 hw
  | 12, _ => c_many_12 hw
  | n + 13, h => absurd h (by omega)
/-- what ofTrack() tells -/
def ph_tk (q : ph_T) (t i : Nat) : Int32 := [(q.2.2.2.1 t).1, (q.2.2.2.1 t).2.1, (q.2.2.2.1 t).2.2.1, (q.2.2.2.1 t).2.2.2.1, ((q.2.2.2.1 t).2.2.2.2.1 - (q.2.2.2.1 t).2.2.2.2.2.1), (q.2.2.2.1 t).2.2.2.2.2.1, (if (q.2.2.2.1 t).2.2.2.2.2.2 = 0 then 0 else 1), (ph_gd q.2.1 (q.2.2.2.1 t).2.2.1.toNatClampNeg (q.2.2.2.1 t).2.2.2.1.toNatClampNeg)].getD i 0
/-- its TRACKS lie on the DISC -/
def ph_in (q : ph_T) (n : Nat) : Prop := n ≤ 8 ∧ q.1.2.1 = nI n ∧ ∀ t, t < n → ∃ f g, f + g ≤ 240 ∧ (q.2.2.2.1 t).2.2.1 = nI f ∧ (q.2.2.2.1 t).2.2.2.1 = nI g
theorem ph_in.lt {q : ph_T} {n t : Nat} (h : ph_in q n) (ht : t < n) : nI t < q.1.2.1 := by rw [h.2.1]; exact nI_lt ht (by have := h.1; omega)
theorem c_ofTrack {X : mi_X} {h : mi_H} {B : Nat} {q : ph_T} {fi le : Nat → Nat → Int32} (hw : ph_W B q fi le h) {n : Nat} (hn : ph_in q n) {t : Nat} (ht : t < n) : ∀ i, i < 8 → mi_S pP X kX8_ofTrack 3 [.ref B, .int (nI t), .int (nI i)] h 0 0 (fun r h1 => r = some (.int (ph_tk q t i)) ∧ h1 = h)
  | 0, _ => c_ofTrack_0 hw (Nat.lt_of_lt_of_le ht hn.1) (hn.lt ht)
  | 1, _ => c_ofTrack_1 hw (Nat.lt_of_lt_of_le ht hn.1) (hn.lt ht)
  | 2, _ => c_ofTrack_2 hw (Nat.lt_of_lt_of_le ht hn.1) (hn.lt ht)
  | 3, _ => c_ofTrack_3 hw (Nat.lt_of_lt_of_le ht hn.1) (hn.lt ht)
  | 4, _ => c_ofTrack_4 hw (Nat.lt_of_lt_of_le ht hn.1) (hn.lt ht)
  | 5, _ => c_ofTrack_5 hw (Nat.lt_of_lt_of_le ht hn.1) (hn.lt ht)
  | 6, _ => c_ofTrack_6 hw (Nat.lt_of_lt_of_le ht hn.1) (hn.lt ht)
  | 7, _ => by
    obtain ⟨f, g, h1, h2, h3⟩ := hn.2.2 t ht
    have hk := c_ofTrack_7 (X := X) hw (Nat.lt_of_lt_of_le ht hn.1) (hn.lt ht) h1 h2 h3
    have e : ph_tk q t 7 = ph_gd q.2.1 f g := by
      show ph_gd q.2.1 (q.2.2.2.1 t).2.2.1.toNatClampNeg (q.2.2.2.1 t).2.2.2.1.toNatClampNeg = _
      rw [h2, h3, nI_clamp (by omega), nI_clamp (by omega)]
    rw [e]
    exact hk
  | i + 8, h => absurd h (by omega)
/-- what ofSector() tells of 2 to 6 -/
def ph_sk (q : ph_T) (s i : Nat) : Int32 := [(ib_bc (q.2.2.1 s).2), (q.2.1 s).2.2.2.1, (q.2.1 s).2.2.2.2.2.1, (q.2.1 s).2.2.2.2.2.2.1, (q.2.1 s).2.2.2.2.2.2.2].getD i 0
theorem c_ofSec {X : mi_X} {h : mi_H} {B : Nat} {q : ph_T} {fi le : Nat → Nat → Int32} (hw : ph_W B q fi le h) {s : Nat} (hs : s < 240) : ∀ i, i < 5 → mi_S pP X kX8_ofSector 3 [.ref B, .int (nI s), .int (nI (i + 2))] h 0 0 (fun r h1 => r = some (.int (ph_sk q s i)) ∧ h1 = h)
  | 0, _ => c_ofSector_2 hw hs
  | 1, _ => c_ofSector_3 hw hs
  | 2, _ => c_ofSector_4 hw hs
  | 3, _ => c_ofSector_5 hw hs
  | 4, _ => c_ofSector_6 hw hs
  | i + 5, h => absurd h (by omega)
theorem c_ofFile {X : mi_X} {h : mi_H} {B : Nat} {q : ph_T} {fi le : Nat → Nat → Int32} (hw : ph_W B q fi le h) (hle : ∀ i, i < 10 → ∀ s, s < 3 → le i s = 0) {i s : Nat} (hi : i < 10) (hs : s < 3) (hsc : nI s < q.1.1) : ∀ w, w < 3 → mi_S pP X kX8_ofFile 1 [.ref B, .int (nI i), .int (nI s), .int (nI w)] h 0 0 (fun r h1 => r = some (.int (-1)) ∧ h1 = h)
  | 0, _ => c_ofFile_0 hw hle hi hs hsc
  | 1, _ => c_ofFile_1 hw hle hi hs hsc
  | 2, _ => c_ofFile_2 hw hle hi hs hsc
  | w + 3, h => absurd h (by omega)
/-- the checksum, in pieces -/
def dg_m (q : ph_T) : Nat → Int64
  | 0 => 9600
  | i + 1 => dg_m q i * 31 + (ph_mny q i).toInt64
def dg_tw (q : ph_T) (t : Nat) (d : Int64) : Nat → Int64
  | 0 => d
  | i + 1 => dg_tw q t d i * 31 + (ph_tk q t i).toInt64
def dg_t (q : ph_T) (d : Int64) : Nat → Int64
  | 0 => d
  | t + 1 => dg_tw q t (dg_t q d t) 8
def dg_sw (q : ph_T) (s : Nat) (d : Int64) : Nat → Int64
  | 0 => d
  | i + 1 => dg_sw q s d i * 31 + (ph_sk q s i).toInt64
def dg_s (q : ph_T) (d : Int64) : Nat → Int64
  | 0 => d
  | s + 1 => if (q.2.1 s).1 = 0 then dg_s q d s else dg_sw q s (dg_s q d s) 5 * 31 + (q.2.1 s).2.2.2.2.1
def dg_fw (d : Int64) : Nat → Int64
  | 0 => d
  | i + 1 => dg_fw d i * 31 + (-1 : Int32).toInt64
def dg_fs (d : Int64) : Nat → Int64
  | 0 => d
  | s + 1 => dg_fw (dg_fs d s) 3
def dg_f (d : Int64) (n : Nat) : Nat → Int64
  | 0 => d
  | i + 1 => dg_fs (dg_f d n i) n
def ph_dig (q : ph_T) (n m : Nat) : Int64 := dg_f (dg_s q (dg_t q (dg_m q 13) n) 240) m 10 * 31 + FP.d2l q.2.2.2.2.1.2.1
set_option maxHeartbeats 4000000 in
set_option maxRecDepth 100000 in
theorem l_dgm {X : mi_X} {h : mi_H} {B : Nat} {q : ph_T} {fi le : Nat → Nat → Int32} (hw : ph_W B q fi le h) {Q : Option Value → mi_H → Prop} (kk : mi_W pP X kX8_digest 5 0 0 31 [(3, .int (nI 13)), (1, .long (dg_m q 13)), (0, .ref B)] [] h Q) : ∀ (m t : Nat), t + m = 13 → mi_W pP X kX8_digest 5 0 0 6 [(3, .int (nI t)), (1, .long (dg_m q t)), (0, .ref B)] [] h Q := by
  intro m
  induction m with
  | zero =>
    intro t ht
    obtain rfl : t = 13 := by omega
    refine mi_blk okX8_digest 2 (pc' := 9) (lv' := [(3, .int (nI 13)), (1, .long (dg_m q 13)), (0, .ref B)]) (st' := [.int 12, .int (nI 13)]) rfl ?_
    refine mi_ic_gt okX8_digest rfl rfl (fun c_9 => ?_) (fun c_9 => absurd (by decide) c_9)
    exact kk
  | succ m ih =>
    intro t ht
    refine mi_blk okX8_digest 2 (pc' := 9) (lv' := [(3, .int (nI t)), (1, .long (dg_m q t)), (0, .ref B)]) (st' := [.int 12, .int (nI t)]) rfl ?_
    refine mi_ic_gt okX8_digest rfl rfl (fun c_9 => absurd c_9 (nI_nlt (a := 12) (b := t) (by omega) (by omega))) (fun c_9 => ?_)
    refine mi_blk okX8_digest 1 (pc' := 13) (lv' := [(3, .int (nI t)), (1, .long (dg_m q t)), (0, .ref B)]) (st' := [.long (dg_m q t)]) rfl ?_
    refine mi_ldc2 okX8_digest (v := (31 : Int64)) rfl kc_RX8_325 ?_
    refine mi_blk okX8_digest 3 (pc' := 19) (lv' := [(3, .int (nI t)), (1, .long (dg_m q t)), (0, .ref B)]) (st' := [.int (nI t), .ref B, .long ((dg_m q t) * (31 : Int64))]) rfl ?_
    refine mi_callV okX8_digest (mc := 0) (ms := 0) (mc' := 0) (ms' := 0) (b := B) (As := [.int (nI t)]) (st := [.long ((dg_m q t) * (31 : Int64))]) rfl cv_RX8_327 rfl (by decide) (show 6 ≤ _ by have := hw.z; omega) (show _ < h.1 by have := hw.z; omega) hw.ph rfl (Nat.le_of_ble_eq_true rfl) (c_many hw t (by omega)) (fun r h1 q => ?_)
    obtain ⟨rfl, e9⟩ := q; have e9 := e9.symm; subst e9
    change mi_W pP X kX8_digest 5 0 0 22 [(3, .int (nI t)), (1, .long (dg_m q t)), (0, .ref B)] [.int (ph_mny q t), .long ((dg_m q t) * (31 : Int64))] h _
    refine mi_blk okX8_digest 5 (pc' := 6) (lv' := [(3, .int ((nI t) + 1)), (1, .long (((dg_m q t) * (31 : Int64)) + ((ph_mny q t).toInt64))), (0, .ref B)]) (st' := []) rfl ?_
    rw [← nI_succ]
    exact ih (t + 1) (by omega)
set_option maxHeartbeats 4000000 in
set_option maxRecDepth 100000 in
theorem l_dgtw {X : mi_X} {h : mi_H} {B : Nat} {q : ph_T} {fi le : Nat → Nat → Int32} (hw : ph_W B q fi le h) {n : Nat} (hn : ph_in q n) {u : Nat} (hu : u < n) {d0 d1 : Int64} {Q : Option Value → mi_H → Prop} (kk : mi_W pP X kX8_digestTracks 4 0 0 46 [(6, .int (nI 8)), (3, .long (dg_tw q u d0 8)), (5, .int (nI u)), (0, .ref B), (1, .long d1)] [] h Q) : ∀ (m t : Nat), t + m = 8 → mi_W pP X kX8_digestTracks 4 0 0 17 [(6, .int (nI t)), (3, .long (dg_tw q u d0 t)), (5, .int (nI u)), (0, .ref B), (1, .long d1)] [] h Q := by
  intro m
  induction m with
  | zero =>
    intro t ht
    obtain rfl : t = 8 := by omega
    refine mi_blk okX8_digestTracks 2 (pc' := 21) (lv' := [(6, .int (nI 8)), (3, .long (dg_tw q u d0 8)), (5, .int (nI u)), (0, .ref B), (1, .long d1)]) (st' := [.int 7, .int (nI 8)]) rfl ?_
    refine mi_ic_gt okX8_digestTracks rfl rfl (fun c_21 => ?_) (fun c_21 => absurd (by decide) c_21)
    exact kk
  | succ m ih =>
    intro t ht
    refine mi_blk okX8_digestTracks 2 (pc' := 21) (lv' := [(6, .int (nI t)), (3, .long (dg_tw q u d0 t)), (5, .int (nI u)), (0, .ref B), (1, .long d1)]) (st' := [.int 7, .int (nI t)]) rfl ?_
    refine mi_ic_gt okX8_digestTracks rfl rfl (fun c_21 => absurd c_21 (nI_nlt (a := 7) (b := t) (by omega) (by omega))) (fun c_21 => ?_)
    refine mi_blk okX8_digestTracks 1 (pc' := 25) (lv' := [(6, .int (nI t)), (3, .long (dg_tw q u d0 t)), (5, .int (nI u)), (0, .ref B), (1, .long d1)]) (st' := [.long (dg_tw q u d0 t)]) rfl ?_
    refine mi_ldc2 okX8_digestTracks (v := (31 : Int64)) rfl kc_RX8_325 ?_
    refine mi_blk okX8_digestTracks 4 (pc' := 34) (lv' := [(6, .int (nI t)), (3, .long (dg_tw q u d0 t)), (5, .int (nI u)), (0, .ref B), (1, .long d1)]) (st' := [.int (nI t), .int (nI u), .ref B, .long ((dg_tw q u d0 t) * (31 : Int64))]) rfl ?_
    refine mi_callV okX8_digestTracks (mc := 0) (ms := 0) (mc' := 0) (ms' := 0) (b := B) (As := [.int (nI u), .int (nI t)]) (st := [.long ((dg_tw q u d0 t) * (31 : Int64))]) rfl cv_RX8_340 rfl (by decide) (show 6 ≤ _ by have := hw.z; omega) (show _ < h.1 by have := hw.z; omega) hw.ph rfl (Nat.le_of_ble_eq_true rfl) (c_ofTrack hw hn hu t (by omega)) (fun r h1 q => ?_)
    obtain ⟨rfl, e9⟩ := q; have e9 := e9.symm; subst e9
    change mi_W pP X kX8_digestTracks 4 0 0 37 [(6, .int (nI t)), (3, .long (dg_tw q u d0 t)), (5, .int (nI u)), (0, .ref B), (1, .long d1)] [.int (ph_tk q u t), .long ((dg_tw q u d0 t) * (31 : Int64))] h _
    refine mi_blk okX8_digestTracks 5 (pc' := 17) (lv' := [(6, .int ((nI t) + 1)), (3, .long (((dg_tw q u d0 t) * (31 : Int64)) + ((ph_tk q u t).toInt64))), (5, .int (nI u)), (0, .ref B), (1, .long d1)]) (st' := []) rfl ?_
    rw [← nI_succ]
    exact ih (t + 1) (by omega)
set_option maxHeartbeats 4000000 in
set_option maxRecDepth 100000 in
theorem l_dgt {X : mi_X} {h : mi_H} {B : Nat} {q : ph_T} {fi le : Nat → Nat → Int32} (hw : ph_W B q fi le h) {n : Nat} (hn : ph_in q n) {d0 : Int64} {Q : Option Value → mi_H → Prop} (hQ : Q (some (.long (dg_t q d0 n))) h) : ∀ (m t : Nat), t + m = n → mi_W pP X kX8_digestTracks 4 0 0 5 [(5, .int (nI t)), (3, .long (dg_t q d0 t)), (0, .ref B), (1, .long d0)] [] h Q := by
  intro m
  induction m with
  | zero =>
    intro t ht
    obtain rfl : t = n := by omega
    refine mi_blk okX8_digestTracks 2 (pc' := 8) (lv' := [(5, .int (nI t)), (3, .long (dg_t q d0 t)), (0, .ref B), (1, .long d0)]) (st' := [.ref B, .int (nI t)]) rfl ?_
    refine mi_getf okX8_digestTracks rfl fg_RX8_46 (show 6 ≤ _ by have := hw.z; omega) (show _ < h.1 by have := hw.z; omega) hw.ph (v := .int q.1.2.1) rfl ?_
    refine mi_ic_ge okX8_digestTracks rfl rfl (fun c_11 => ?_) (fun c_11 => absurd (by rw [hn.2.1]; exact nI_le (Nat.le_refl _) (by have := hn.1; omega)) c_11)
    refine mi_blk okX8_digestTracks 1 (pc' := 53) (lv' := [(5, .int (nI t)), (3, .long (dg_t q d0 t)), (0, .ref B), (1, .long d0)]) (st' := [.long (dg_t q d0 t)]) rfl ?_
    exact mi_ret_l okX8_digestTracks rfl rfl hQ
  | succ m ih =>
    intro t ht
    refine mi_blk okX8_digestTracks 2 (pc' := 8) (lv' := [(5, .int (nI t)), (3, .long (dg_t q d0 t)), (0, .ref B), (1, .long d0)]) (st' := [.ref B, .int (nI t)]) rfl ?_
    refine mi_getf okX8_digestTracks rfl fg_RX8_46 (show 6 ≤ _ by have := hw.z; omega) (show _ < h.1 by have := hw.z; omega) hw.ph (v := .int q.1.2.1) rfl ?_
    refine mi_ic_ge okX8_digestTracks rfl rfl (fun c_11 => absurd c_11 (by rw [hn.2.1]; exact nI_ge (by omega) (by have := hn.1; omega))) (fun c_11 => ?_)
    refine mi_blk okX8_digestTracks 2 (pc' := 17) (lv' := [(6, .int 0), (5, .int (nI t)), (3, .long (dg_t q d0 t)), (0, .ref B), (1, .long d0)]) (st' := []) rfl ?_
    change mi_W pP X kX8_digestTracks 4 0 0 17 [(6, .int (nI 0)), (5, .int (nI t)), (3, .long (dg_tw q t (dg_t q d0 t) 0)), (0, .ref B), (1, .long d0)] [] h _
    refine mi_WX.locs (lv' := [(6, .int (nI 0)), (3, .long (dg_tw q t (dg_t q d0 t) 0)), (5, .int (nI t)), (0, .ref B), (1, .long d0)]) (by simp) ?_
    refine l_dgtw hw hn (by omega) ?_ 8 0 rfl
    refine mi_blk okX8_digestTracks 2 (pc' := 5) (lv' := [(5, .int ((nI t) + 1)), (6, .int (nI 8)), (3, .long (dg_tw q t (dg_t q d0 t) 8)), (0, .ref B), (1, .long d0)]) (st' := []) rfl ?_
    rw [← nI_succ]
    exact mi_WX.locs (by simp [dg_t]) (ih (t + 1) (by omega))
set_option maxHeartbeats 4000000 in
set_option maxRecDepth 100000 in
theorem c_digestTracks {X : mi_X} {h : mi_H} {B : Nat} {q : ph_T} {fi le : Nat → Nat → Int32} (hw : ph_W B q fi le h) {n : Nat} (hn : ph_in q n) {d0 : Int64} : mi_S pP X kX8_digestTracks 4 [.ref B, .long d0] h 0 0 (fun r h1 => r = some (.long (dg_t q d0 n)) ∧ h1 = h) := by
  refine enX8_digestTracks (Nat.le_of_ble_eq_true rfl) ?_
  refine mi_blk okX8_digestTracks 4 (pc' := 5) (lv' := [(5, .int 0), (3, .long d0), (0, .ref B), (1, .long d0)]) (st' := []) rfl ?_
  change mi_W pP X kX8_digestTracks 4 0 0 5 [(5, .int (nI 0)), (3, .long (dg_t q d0 0)), (0, .ref B), (1, .long d0)] [] h _
  exact mi_WX.locs (by simp) (l_dgt hw hn ⟨rfl, rfl⟩ n 0 (Nat.zero_add n))
set_option maxHeartbeats 4000000 in
set_option maxRecDepth 100000 in
theorem l_dgsw {X : mi_X} {h : mi_H} {B : Nat} {q : ph_T} {fi le : Nat → Nat → Int32} (hw : ph_W B q fi le h) {u : Nat} (hu : u < 240) {d0 d1 : Int64} {Q : Option Value → mi_H → Prop} (kk : mi_W pP X kX8_digestSectors 4 0 0 58 [(6, .int (nI 7)), (3, .long (dg_sw q u d0 5)), (5, .int (nI u)), (0, .ref B), (1, .long d1)] [] h Q) : ∀ (m t : Nat), t + m = 5 → mi_W pP X kX8_digestSectors 4 0 0 29 [(6, .int (nI (t + 2))), (3, .long (dg_sw q u d0 t)), (5, .int (nI u)), (0, .ref B), (1, .long d1)] [] h Q := by
  intro m
  induction m with
  | zero =>
    intro t ht
    obtain rfl : t = 5 := by omega
    refine mi_blk okX8_digestSectors 2 (pc' := 33) (lv' := [(6, .int (nI (5 + 2))), (3, .long (dg_sw q u d0 5)), (5, .int (nI u)), (0, .ref B), (1, .long d1)]) (st' := [.int 6, .int (nI (5 + 2))]) rfl ?_
    refine mi_ic_gt okX8_digestSectors rfl rfl (fun c_33 => ?_) (fun c_33 => absurd (by decide) c_33)
    exact kk
  | succ m ih =>
    intro t ht
    refine mi_blk okX8_digestSectors 2 (pc' := 33) (lv' := [(6, .int (nI (t + 2))), (3, .long (dg_sw q u d0 t)), (5, .int (nI u)), (0, .ref B), (1, .long d1)]) (st' := [.int 6, .int (nI (t + 2))]) rfl ?_
    refine mi_ic_gt okX8_digestSectors rfl rfl (fun c_33 => absurd c_33 (nI_nlt (a := 6) (b := t + 2) (by omega) (by omega))) (fun c_33 => ?_)
    refine mi_blk okX8_digestSectors 1 (pc' := 37) (lv' := [(6, .int (nI (t + 2))), (3, .long (dg_sw q u d0 t)), (5, .int (nI u)), (0, .ref B), (1, .long d1)]) (st' := [.long (dg_sw q u d0 t)]) rfl ?_
    refine mi_ldc2 okX8_digestSectors (v := (31 : Int64)) rfl kc_RX8_325 ?_
    refine mi_blk okX8_digestSectors 4 (pc' := 46) (lv' := [(6, .int (nI (t + 2))), (3, .long (dg_sw q u d0 t)), (5, .int (nI u)), (0, .ref B), (1, .long d1)]) (st' := [.int (nI (t + 2)), .int (nI u), .ref B, .long ((dg_sw q u d0 t) * (31 : Int64))]) rfl ?_
    refine mi_callV okX8_digestSectors (mc := 0) (ms := 0) (mc' := 0) (ms' := 0) (b := B) (As := [.int (nI u), .int (nI (t + 2))]) (st := [.long ((dg_sw q u d0 t) * (31 : Int64))]) rfl cv_RX8_343 rfl (by decide) (show 6 ≤ _ by have := hw.z; omega) (show _ < h.1 by have := hw.z; omega) hw.ph rfl (Nat.le_of_ble_eq_true rfl) (c_ofSec hw hu t (by omega)) (fun r h1 q => ?_)
    obtain ⟨rfl, e9⟩ := q; have e9 := e9.symm; subst e9
    change mi_W pP X kX8_digestSectors 4 0 0 49 [(6, .int (nI (t + 2))), (3, .long (dg_sw q u d0 t)), (5, .int (nI u)), (0, .ref B), (1, .long d1)] [.int (ph_sk q u t), .long ((dg_sw q u d0 t) * (31 : Int64))] h _
    refine mi_blk okX8_digestSectors 5 (pc' := 29) (lv' := [(6, .int ((nI (t + 2)) + 1)), (3, .long (((dg_sw q u d0 t) * (31 : Int64)) + ((ph_sk q u t).toInt64))), (5, .int (nI u)), (0, .ref B), (1, .long d1)]) (st' := []) rfl ?_
    rw [← nI_succ, show t + 2 + 1 = t + 1 + 2 by omega]
    exact ih (t + 1) (by omega)
set_option maxHeartbeats 4000000 in
set_option maxRecDepth 100000 in
theorem l_dgs {X : mi_X} {h : mi_H} {B : Nat} {q : ph_T} {fi le : Nat → Nat → Int32} (hw : ph_W B q fi le h) {d0 : Int64} {Q : Option Value → mi_H → Prop} (hQ : Q (some (.long (dg_s q d0 240))) h) : ∀ (m t : Nat), t + m = 240 → mi_W pP X kX8_digestSectors 4 0 0 5 [(5, .int (nI t)), (3, .long (dg_s q d0 t)), (0, .ref B), (1, .long d0)] [] h Q := by
  intro m
  induction m with
  | zero =>
    intro t ht
    obtain rfl : t = 240 := by omega
    refine mi_blk okX8_digestSectors 2 (pc' := 10) (lv' := [(5, .int (nI 240)), (3, .long (dg_s q d0 240)), (0, .ref B), (1, .long d0)]) (st' := [.int 240, .int (nI 240)]) rfl ?_
    refine mi_ic_ge okX8_digestSectors rfl rfl (fun c_10 => ?_) (fun c_10 => absurd (by decide) c_10)
    refine mi_blk okX8_digestSectors 1 (pc' := 79) (lv' := [(5, .int (nI 240)), (3, .long (dg_s q d0 240)), (0, .ref B), (1, .long d0)]) (st' := [.long (dg_s q d0 240)]) rfl ?_
    exact mi_ret_l okX8_digestSectors rfl rfl hQ
  | succ m ih =>
    intro t ht
    refine mi_blk okX8_digestSectors 2 (pc' := 10) (lv' := [(5, .int (nI t)), (3, .long (dg_s q d0 t)), (0, .ref B), (1, .long d0)]) (st' := [.int 240, .int (nI t)]) rfl ?_
    refine mi_ic_ge okX8_digestSectors rfl rfl (fun c_10 => absurd c_10 (nI_ge (a := t) (b := 240) (by omega) (by decide))) (fun c_10 => ?_)
    refine mi_blk okX8_digestSectors 1 (pc' := 14) (lv' := [(5, .int (nI t)), (3, .long (dg_s q d0 t)), (0, .ref B), (1, .long d0)]) (st' := [.ref B]) rfl ?_
    refine mi_getf okX8_digestSectors rfl fg_RX8_11 (show 6 ≤ _ by have := hw.z; omega) (show _ < h.1 by have := hw.z; omega) hw.ph (v := .ref (B + 1)) rfl ?_
    refine mi_blk okX8_digestSectors 1 (pc' := 19) (lv' := [(5, .int (nI t)), (3, .long (dg_s q d0 t)), (0, .ref B), (1, .long d0)]) (st' := [.int (nI t), .ref (B + 1)]) rfl ?_
    refine ph_aaS okX8_digestSectors (s := t) rfl hw (by omega) ?_
    refine mi_getf okX8_digestSectors rfl fg_RX8_169 (show 6 ≤ _ by have := hw.z; omega) (show _ < h.1 by have := hw.z; omega) (hw.se t (by omega)) (v := .int ((q.2.1 t).1)) rfl ?_
    refine mi_if_eq okX8_digestSectors rfl rfl (fun c_23 => ?_) (fun c_23 => ?_)
    · refine mi_blk okX8_digestSectors 2 (pc' := 5) (lv' := [(5, .int ((nI t) + 1)), (3, .long (dg_s q d0 t)), (0, .ref B), (1, .long d0)]) (st' := []) rfl ?_
      rw [← nI_succ]
      exact mi_WX.locs (by simp [dg_s, c_23]) (ih (t + 1) (by omega))
    · refine mi_blk okX8_digestSectors 2 (pc' := 29) (lv' := [(6, .int 2), (5, .int (nI t)), (3, .long (dg_s q d0 t)), (0, .ref B), (1, .long d0)]) (st' := []) rfl ?_
      change mi_W pP X kX8_digestSectors 4 0 0 29 [(6, .int (nI 2)), (5, .int (nI t)), (3, .long (dg_sw q t (dg_s q d0 t) 0)), (0, .ref B), (1, .long d0)] [] h _
      refine mi_WX.locs (lv' := [(6, .int (nI (0 + 2))), (3, .long (dg_sw q t (dg_s q d0 t) 0)), (5, .int (nI t)), (0, .ref B), (1, .long d0)]) (by simp) ?_
      refine l_dgsw hw (by omega) ?_ 5 0 rfl
      refine mi_blk okX8_digestSectors 1 (pc' := 59) (lv' := [(6, .int (nI 7)), (3, .long (dg_sw q t (dg_s q d0 t) 5)), (5, .int (nI t)), (0, .ref B), (1, .long d0)]) (st' := [.long (dg_sw q t (dg_s q d0 t) 5)]) rfl ?_
      refine mi_ldc2 okX8_digestSectors (v := (31 : Int64)) rfl kc_RX8_325 ?_
      refine mi_blk okX8_digestSectors 4 (pc' := 67) (lv' := [(6, .int (nI 7)), (3, .long (dg_sw q t (dg_s q d0 t) 5)), (5, .int (nI t)), (0, .ref B), (1, .long d0)]) (st' := [.int 1, .int (nI t), .ref B, .long ((dg_sw q t (dg_s q d0 t) 5) * (31 : Int64))]) rfl ?_
      refine mi_callV okX8_digestSectors (mc := 0) (ms := 0) (mc' := 0) (ms' := 0) (b := B) (As := [.int (nI t), .int 1]) (st := [.long ((dg_sw q t (dg_s q d0 t) 5) * (31 : Int64))]) rfl cv_RX8_346 rfl (by decide) (show 6 ≤ _ by have := hw.z; omega) (show _ < h.1 by have := hw.z; omega) hw.ph rfl (Nat.le_of_ble_eq_true rfl) (c_nibbles_1 hw (by omega)) (fun r h1 q => ?_)
      obtain ⟨rfl, e9⟩ := q; have e9 := e9.symm; subst e9
      change mi_W pP X kX8_digestSectors 4 0 0 70 [(6, .int (nI 7)), (3, .long (dg_sw q t (dg_s q d0 t) 5)), (5, .int (nI t)), (0, .ref B), (1, .long d0)] [.long ((q.2.1 t).2.2.2.2.1), .long ((dg_sw q t (dg_s q d0 t) 5) * (31 : Int64))] h _
      refine mi_blk okX8_digestSectors 4 (pc' := 5) (lv' := [(5, .int ((nI t) + 1)), (3, .long (((dg_sw q t (dg_s q d0 t) 5) * (31 : Int64)) + ((q.2.1 t).2.2.2.2.1))), (6, .int (nI 7)), (0, .ref B), (1, .long d0)]) (st' := []) rfl ?_
      rw [← nI_succ]
      exact mi_WX.locs (by simp [dg_s, c_23]) (ih (t + 1) (by omega))
set_option maxHeartbeats 4000000 in
set_option maxRecDepth 100000 in
theorem c_digestSectors {X : mi_X} {h : mi_H} {B : Nat} {q : ph_T} {fi le : Nat → Nat → Int32} (hw : ph_W B q fi le h) {d0 : Int64} : mi_S pP X kX8_digestSectors 4 [.ref B, .long d0] h 0 0 (fun r h1 => r = some (.long (dg_s q d0 240)) ∧ h1 = h) := by
  refine enX8_digestSectors (Nat.le_of_ble_eq_true rfl) ?_
  refine mi_blk okX8_digestSectors 4 (pc' := 5) (lv' := [(5, .int 0), (3, .long d0), (0, .ref B), (1, .long d0)]) (st' := []) rfl ?_
  change mi_W pP X kX8_digestSectors 4 0 0 5 [(5, .int (nI 0)), (3, .long (dg_s q d0 0)), (0, .ref B), (1, .long d0)] [] h _
  exact mi_WX.locs (by simp) (l_dgs hw ⟨rfl, rfl⟩ 240 0 rfl)
set_option maxHeartbeats 4000000 in
set_option maxRecDepth 100000 in
theorem l_dgfw {X : mi_X} {h : mi_H} {B : Nat} {q : ph_T} {fi le : Nat → Nat → Int32} (hw : ph_W B q fi le h) (hle : ∀ i, i < 10 → ∀ s, s < 3 → le i s = 0) {u v : Nat} (hu : u < 10) (hv : v < 3) (hvc : nI v < q.1.1) {d0 d1 : Int64} {Q : Option Value → mi_H → Prop} (kk : mi_W pP X kX8_digestFiles 4 0 0 57 [(7, .int (nI 3)), (3, .long (dg_fw d0 3)), (6, .int (nI v)), (5, .int (nI u)), (0, .ref B), (1, .long d1)] [] h Q) : ∀ (m t : Nat), t + m = 3 → mi_W pP X kX8_digestFiles 4 0 0 27 [(7, .int (nI t)), (3, .long (dg_fw d0 t)), (6, .int (nI v)), (5, .int (nI u)), (0, .ref B), (1, .long d1)] [] h Q := by
  intro m
  induction m with
  | zero =>
    intro t ht
    obtain rfl : t = 3 := by omega
    refine mi_blk okX8_digestFiles 2 (pc' := 30) (lv' := [(7, .int (nI 3)), (3, .long (dg_fw d0 3)), (6, .int (nI v)), (5, .int (nI u)), (0, .ref B), (1, .long d1)]) (st' := [.int 2, .int (nI 3)]) rfl ?_
    refine mi_ic_gt okX8_digestFiles rfl rfl (fun c_30 => ?_) (fun c_30 => absurd (by decide) c_30)
    exact kk
  | succ m ih =>
    intro t ht
    refine mi_blk okX8_digestFiles 2 (pc' := 30) (lv' := [(7, .int (nI t)), (3, .long (dg_fw d0 t)), (6, .int (nI v)), (5, .int (nI u)), (0, .ref B), (1, .long d1)]) (st' := [.int 2, .int (nI t)]) rfl ?_
    refine mi_ic_gt okX8_digestFiles rfl rfl (fun c_30 => absurd c_30 (nI_nlt (a := 2) (b := t) (by omega) (by omega))) (fun c_30 => ?_)
    refine mi_blk okX8_digestFiles 1 (pc' := 34) (lv' := [(7, .int (nI t)), (3, .long (dg_fw d0 t)), (6, .int (nI v)), (5, .int (nI u)), (0, .ref B), (1, .long d1)]) (st' := [.long (dg_fw d0 t)]) rfl ?_
    refine mi_ldc2 okX8_digestFiles (v := (31 : Int64)) rfl kc_RX8_325 ?_
    refine mi_blk okX8_digestFiles 5 (pc' := 45) (lv' := [(7, .int (nI t)), (3, .long (dg_fw d0 t)), (6, .int (nI v)), (5, .int (nI u)), (0, .ref B), (1, .long d1)]) (st' := [.int (nI t), .int (nI v), .int (nI u), .ref B, .long ((dg_fw d0 t) * (31 : Int64))]) rfl ?_
    refine mi_callV okX8_digestFiles (mc := 0) (ms := 0) (mc' := 0) (ms' := 0) (b := B) (As := [.int (nI u), .int (nI v), .int (nI t)]) (st := [.long ((dg_fw d0 t) * (31 : Int64))]) rfl cv_RX8_350 rfl (by decide) (show 6 ≤ _ by have := hw.z; omega) (show _ < h.1 by have := hw.z; omega) hw.ph rfl (Nat.le_of_ble_eq_true rfl) (c_ofFile hw hle hu hv hvc t (by omega)) (fun r h1 q => ?_)
    obtain ⟨rfl, e9⟩ := q; have e9 := e9.symm; subst e9
    change mi_W pP X kX8_digestFiles 4 0 0 48 [(7, .int (nI t)), (3, .long (dg_fw d0 t)), (6, .int (nI v)), (5, .int (nI u)), (0, .ref B), (1, .long d1)] [.int (-1 : Int32), .long ((dg_fw d0 t) * (31 : Int64))] h _
    refine mi_blk okX8_digestFiles 5 (pc' := 27) (lv' := [(7, .int ((nI t) + 1)), (3, .long (((dg_fw d0 t) * (31 : Int64)) + ((-1 : Int32).toInt64))), (6, .int (nI v)), (5, .int (nI u)), (0, .ref B), (1, .long d1)]) (st' := []) rfl ?_
    rw [← nI_succ]
    exact ih (t + 1) (by omega)
set_option maxHeartbeats 4000000 in
set_option maxRecDepth 100000 in
theorem l_dgfs {X : mi_X} {h : mi_H} {B : Nat} {q : ph_T} {fi le : Nat → Nat → Int32} (hw : ph_W B q fi le h) (hle : ∀ i, i < 10 → ∀ s, s < 3 → le i s = 0) {n : Nat} (hn3 : n ≤ 3) (hsn : q.1.1 = nI n) {u : Nat} (hu : u < 10) {d0 d1 : Int64} {Q : Option Value → mi_H → Prop} (kk : mi_W pP X kX8_digestFiles 4 0 0 63 [(6, .int (nI n)), (3, .long (dg_fs d0 n)), (5, .int (nI u)), (0, .ref B), (1, .long d1)] [] h Q) : ∀ (m t : Nat), t + m = n → mi_W pP X kX8_digestFiles 4 0 0 15 [(6, .int (nI t)), (3, .long (dg_fs d0 t)), (5, .int (nI u)), (0, .ref B), (1, .long d1)] [] h Q := by
  intro m
  induction m with
  | zero =>
    intro t ht
    obtain rfl : t = n := by omega
    refine mi_blk okX8_digestFiles 2 (pc' := 18) (lv' := [(6, .int (nI t)), (3, .long (dg_fs d0 t)), (5, .int (nI u)), (0, .ref B), (1, .long d1)]) (st' := [.ref B, .int (nI t)]) rfl ?_
    refine mi_getf okX8_digestFiles rfl fg_RX8_42 (show 6 ≤ _ by have := hw.z; omega) (show _ < h.1 by have := hw.z; omega) hw.ph (v := .int q.1.1) rfl ?_
    refine mi_ic_ge okX8_digestFiles rfl rfl (fun c_21 => ?_) (fun c_21 => absurd (by rw [hsn]; exact nI_le (Nat.le_refl _) (by omega)) c_21)
    exact kk
  | succ m ih =>
    intro t ht
    refine mi_blk okX8_digestFiles 2 (pc' := 18) (lv' := [(6, .int (nI t)), (3, .long (dg_fs d0 t)), (5, .int (nI u)), (0, .ref B), (1, .long d1)]) (st' := [.ref B, .int (nI t)]) rfl ?_
    refine mi_getf okX8_digestFiles rfl fg_RX8_42 (show 6 ≤ _ by have := hw.z; omega) (show _ < h.1 by have := hw.z; omega) hw.ph (v := .int q.1.1) rfl ?_
    refine mi_ic_ge okX8_digestFiles rfl rfl (fun c_21 => absurd c_21 (by rw [hsn]; exact nI_ge (by omega) (by omega))) (fun c_21 => ?_)
    refine mi_blk okX8_digestFiles 2 (pc' := 27) (lv' := [(7, .int 0), (6, .int (nI t)), (3, .long (dg_fs d0 t)), (5, .int (nI u)), (0, .ref B), (1, .long d1)]) (st' := []) rfl ?_
    change mi_W pP X kX8_digestFiles 4 0 0 27 [(7, .int (nI 0)), (6, .int (nI t)), (3, .long (dg_fw (dg_fs d0 t) 0)), (5, .int (nI u)), (0, .ref B), (1, .long d1)] [] h _
    refine mi_WX.locs (lv' := [(7, .int (nI 0)), (3, .long (dg_fw (dg_fs d0 t) 0)), (6, .int (nI t)), (5, .int (nI u)), (0, .ref B), (1, .long d1)]) (by simp) ?_
    refine l_dgfw hw hle hu (by omega) (by rw [hsn]; exact nI_lt (by omega) (by omega)) ?_ 3 0 rfl
    refine mi_blk okX8_digestFiles 2 (pc' := 15) (lv' := [(6, .int ((nI t) + 1)), (7, .int (nI 3)), (3, .long (dg_fw (dg_fs d0 t) 3)), (5, .int (nI u)), (0, .ref B), (1, .long d1)]) (st' := []) rfl ?_
    rw [← nI_succ]
    exact mi_WX.locs (by simp [dg_fs]) (ih (t + 1) (by omega))
set_option maxHeartbeats 4000000 in
set_option maxRecDepth 100000 in
theorem l_dgf {X : mi_X} {h : mi_H} {B : Nat} {q : ph_T} {fi le : Nat → Nat → Int32} (hw : ph_W B q fi le h) (hle : ∀ i, i < 10 → ∀ s, s < 3 → le i s = 0) {n : Nat} (hn3 : n ≤ 3) (hsn : q.1.1 = nI n) {d0 : Int64} {Q : Option Value → mi_H → Prop} (hQ : Q (some (.long (dg_f d0 n 10))) h) : ∀ (m t : Nat), t + m = 10 → mi_W pP X kX8_digestFiles 4 0 0 5 [(5, .int (nI t)), (3, .long (dg_f d0 n t)), (0, .ref B), (1, .long d0)] [] h Q := by
  intro m
  induction m with
  | zero =>
    intro t ht
    obtain rfl : t = 10 := by omega
    refine mi_blk okX8_digestFiles 2 (pc' := 9) (lv' := [(5, .int (nI 10)), (3, .long (dg_f d0 n 10)), (0, .ref B), (1, .long d0)]) (st' := [.int 10, .int (nI 10)]) rfl ?_
    refine mi_ic_ge okX8_digestFiles rfl rfl (fun c_9 => ?_) (fun c_9 => absurd (by decide) c_9)
    refine mi_blk okX8_digestFiles 1 (pc' := 70) (lv' := [(5, .int (nI 10)), (3, .long (dg_f d0 n 10)), (0, .ref B), (1, .long d0)]) (st' := [.long (dg_f d0 n 10)]) rfl ?_
    exact mi_ret_l okX8_digestFiles rfl rfl hQ
  | succ m ih =>
    intro t ht
    refine mi_blk okX8_digestFiles 2 (pc' := 9) (lv' := [(5, .int (nI t)), (3, .long (dg_f d0 n t)), (0, .ref B), (1, .long d0)]) (st' := [.int 10, .int (nI t)]) rfl ?_
    refine mi_ic_ge okX8_digestFiles rfl rfl (fun c_9 => absurd c_9 (nI_ge (a := t) (b := 10) (by omega) (by decide))) (fun c_9 => ?_)
    refine mi_blk okX8_digestFiles 2 (pc' := 15) (lv' := [(6, .int 0), (5, .int (nI t)), (3, .long (dg_f d0 n t)), (0, .ref B), (1, .long d0)]) (st' := []) rfl ?_
    change mi_W pP X kX8_digestFiles 4 0 0 15 [(6, .int (nI 0)), (5, .int (nI t)), (3, .long (dg_fs (dg_f d0 n t) 0)), (0, .ref B), (1, .long d0)] [] h _
    refine mi_WX.locs (lv' := [(6, .int (nI 0)), (3, .long (dg_fs (dg_f d0 n t) 0)), (5, .int (nI t)), (0, .ref B), (1, .long d0)]) (by simp) ?_
    refine l_dgfs hw hle hn3 hsn (by omega) ?_ n 0 (Nat.zero_add n)
    refine mi_blk okX8_digestFiles 2 (pc' := 5) (lv' := [(5, .int ((nI t) + 1)), (6, .int (nI n)), (3, .long (dg_fs (dg_f d0 n t) n)), (0, .ref B), (1, .long d0)]) (st' := []) rfl ?_
    rw [← nI_succ]
    exact mi_WX.locs (by simp [dg_f]) (ih (t + 1) (by omega))
set_option maxHeartbeats 4000000 in
set_option maxRecDepth 100000 in
theorem c_digestFiles {X : mi_X} {h : mi_H} {B : Nat} {q : ph_T} {fi le : Nat → Nat → Int32} (hw : ph_W B q fi le h) (hle : ∀ i, i < 10 → ∀ s, s < 3 → le i s = 0) {n : Nat} (hn3 : n ≤ 3) (hsn : q.1.1 = nI n) {d0 : Int64} : mi_S pP X kX8_digestFiles 4 [.ref B, .long d0] h 0 0 (fun r h1 => r = some (.long (dg_f d0 n 10)) ∧ h1 = h) := by
  refine enX8_digestFiles (Nat.le_of_ble_eq_true rfl) ?_
  refine mi_blk okX8_digestFiles 4 (pc' := 5) (lv' := [(5, .int 0), (3, .long d0), (0, .ref B), (1, .long d0)]) (st' := []) rfl ?_
  change mi_W pP X kX8_digestFiles 4 0 0 5 [(5, .int (nI 0)), (3, .long (dg_f d0 n 0)), (0, .ref B), (1, .long d0)] [] h _
  exact mi_WX.locs (by simp) (l_dgf hw hle hn3 hsn ⟨rfl, rfl⟩ 10 0 rfl)
set_option maxHeartbeats 4000000 in
set_option maxRecDepth 100000 in
theorem c_digest {X : mi_X} {h : mi_H} {B : Nat} {q : ph_T} {fi le : Nat → Nat → Int32} (hw : ph_W B q fi le h) (hle : ∀ i, i < 10 → ∀ s, s < 3 → le i s = 0) {n : Nat} (hn : ph_in q n) {m : Nat} (hm3 : m ≤ 3) (hsm : q.1.1 = nI m) : mi_S pP X kX8_digest 5 [.ref B] h 0 0 (fun r h1 => r = some (.long (ph_dig q n m)) ∧ h1 = h) := by
  refine enX8_digest (Nat.le_of_ble_eq_true rfl) ?_
  refine mi_ldc2 okX8_digest (v := (9600 : Int64)) rfl kc_RX8_323 ?_
  refine mi_blk okX8_digest 3 (pc' := 6) (lv' := [(3, .int 0), (1, .long (9600 : Int64)), (0, .ref B)]) (st' := []) rfl ?_
  change mi_W pP X kX8_digest 5 0 0 6 [(3, .int (nI 0)), (1, .long (dg_m q 0)), (0, .ref B)] [] h _
  refine l_dgm hw ?_ 13 0 rfl
  refine mi_blk okX8_digest 2 (pc' := 33) (lv' := [(3, .int (nI 13)), (1, .long (dg_m q 13)), (0, .ref B)]) (st' := [.long (dg_m q 13), .ref B]) rfl ?_
  refine mi_callV okX8_digest (mc := 0) (ms := 0) (mc' := 0) (ms' := 0) (b := B) (As := [.long (dg_m q 13)]) (st := []) rfl cv_RX8_330 rfl (by decide) (show 6 ≤ _ by have := hw.z; omega) (show _ < h.1 by have := hw.z; omega) hw.ph rfl (Nat.le_of_ble_eq_true rfl) (c_digestTracks hw hn) (fun r h1 q => ?_)
  obtain ⟨rfl, e9⟩ := q; have e9 := e9.symm; subst e9
  change mi_W pP X kX8_digest 5 0 0 36 [(3, .int (nI 13)), (1, .long (dg_m q 13)), (0, .ref B)] [.long (dg_t q (dg_m q 13) n)] h _
  refine mi_blk okX8_digest 3 (pc' := 39) (lv' := [(1, .long (dg_t q (dg_m q 13) n)), (3, .int (nI 13)), (0, .ref B)]) (st' := [.long (dg_t q (dg_m q 13) n), .ref B]) rfl ?_
  refine mi_callV okX8_digest (mc := 0) (ms := 0) (mc' := 0) (ms' := 0) (b := B) (As := [.long (dg_t q (dg_m q 13) n)]) (st := []) rfl cv_RX8_334 rfl (by decide) (show 6 ≤ _ by have := hw.z; omega) (show _ < h.1 by have := hw.z; omega) hw.ph rfl (Nat.le_of_ble_eq_true rfl) (c_digestSectors hw) (fun r h1 q => ?_)
  obtain ⟨rfl, e9⟩ := q; have e9 := e9.symm; subst e9
  change mi_W pP X kX8_digest 5 0 0 42 [(1, .long (dg_t q (dg_m q 13) n)), (3, .int (nI 13)), (0, .ref B)] [.long (dg_s q (dg_t q (dg_m q 13) n) 240)] h _
  refine mi_blk okX8_digest 3 (pc' := 45) (lv' := [(1, .long (dg_s q (dg_t q (dg_m q 13) n) 240)), (3, .int (nI 13)), (0, .ref B)]) (st' := [.long (dg_s q (dg_t q (dg_m q 13) n) 240), .ref B]) rfl ?_
  refine mi_callV okX8_digest (mc := 0) (ms := 0) (mc' := 0) (ms' := 0) (b := B) (As := [.long (dg_s q (dg_t q (dg_m q 13) n) 240)]) (st := []) rfl cv_RX8_337 rfl (by decide) (show 6 ≤ _ by have := hw.z; omega) (show _ < h.1 by have := hw.z; omega) hw.ph rfl (Nat.le_of_ble_eq_true rfl) (c_digestFiles hw hle hm3 hsm) (fun r h1 q => ?_)
  obtain ⟨rfl, e9⟩ := q; have e9 := e9.symm; subst e9
  change mi_W pP X kX8_digest 5 0 0 48 [(1, .long (dg_s q (dg_t q (dg_m q 13) n) 240)), (3, .int (nI 13)), (0, .ref B)] [.long (dg_f (dg_s q (dg_t q (dg_m q 13) n) 240) m 10)] h _
  refine mi_blk okX8_digest 2 (pc' := 50) (lv' := [(1, .long (dg_f (dg_s q (dg_t q (dg_m q 13) n) 240) m 10)), (3, .int (nI 13)), (0, .ref B)]) (st' := [.long (dg_f (dg_s q (dg_t q (dg_m q 13) n) 240) m 10)]) rfl ?_
  refine mi_ldc2 okX8_digest (v := (31 : Int64)) rfl kc_RX8_325 ?_
  refine mi_blk okX8_digest 2 (pc' := 55) (lv' := [(1, .long (dg_f (dg_s q (dg_t q (dg_m q 13) n) 240) m 10)), (3, .int (nI 13)), (0, .ref B)]) (st' := [.ref B, .long ((dg_f (dg_s q (dg_t q (dg_m q 13) n) 240) m 10) * (31 : Int64))]) rfl ?_
  refine mi_getf okX8_digest rfl fg_RX8_31 (show 6 ≤ _ by have := hw.z; omega) (show _ < h.1 by have := hw.z; omega) hw.ph (v := .ref (B + 26)) rfl ?_
  refine mi_getf okX8_digest rfl fg_RX8_206 (show 6 ≤ _ by have := hw.z; omega) (show _ < h.1 by have := hw.z; omega) hw.dr (v := .double q.2.2.2.2.1.2.1) rfl ?_
  refine mi_blk okX8_digest 2 (pc' := 63) (lv' := [(1, .long (dg_f (dg_s q (dg_t q (dg_m q 13) n) 240) m 10)), (3, .int (nI 13)), (0, .ref B)]) (st' := [.long (((dg_f (dg_s q (dg_t q (dg_m q 13) n) 240) m 10) * (31 : Int64)) + (FP.d2l q.2.2.2.2.1.2.1))]) rfl ?_
  exact mi_ret_l okX8_digest rfl rfl ⟨rfl, rfl⟩
set_option maxHeartbeats 4000000 in
set_option maxRecDepth 100000 in
theorem c_wouldTake {X : mi_X} (hX : mi_X23 X) {h : mi_H} {B : Nat} {q : ph_T} {fi le : Nat → Nat → Int32} (hw : ph_W B q fi le h) (hd : q.2.2.2.2.1.1 < 240) {f g m : Nat} (hf : f < 240) (hg1 : 1 ≤ g) (hg2 : g ≤ 40) (hfm : f + m ≤ 240) (hm : (if (240 : Int32) < nI f + nI g then (240 : Int32) else nI f + nI g) = nI (f + m)) (hx : ∀ i, i < m → dr_okc (tv q.2.2.2.2.1.2.1 q.2.2.2.2.1.1 f i).1 (tv q.2.2.2.2.1.2.1 q.2.2.2.2.1.1 f i).2 (f + i)) (hs : vf_n64 (FP.dsub (tv q.2.2.2.2.1.2.1 q.2.2.2.2.1.1 f m).1 q.2.2.2.2.1.2.1)) : mi_S pP X kX8_wouldTake 5 [.ref B, .int (nI f), .int (nI g)] h 0 0 (fun r h1 => r = some (.double (FP.dsub (tv q.2.2.2.2.1.2.1 q.2.2.2.2.1.1 f m).1 q.2.2.2.2.1.2.1)) ∧ h1 = h) := by
  refine enX8_wouldTake (Nat.le_of_ble_eq_true rfl) ?_
  refine mi_blk okX8_wouldTake 1 (pc' := 1) (lv' := [(0, .ref B), (1, .int (nI f)), (2, .int (nI g))]) (st' := [.int (nI f)]) rfl ?_
  refine mi_callS okX8_wouldTake (mc := 0) (ms := 0) (mc' := 0) (ms' := 0) (As := [.int (nI f)]) (st := []) rfl cs_RX8_188 rfl (by decide) (Nat.le_of_ble_eq_true rfl) (c_checkSector (by omega)) (fun r h1 q => ?_)
  obtain ⟨rfl, e9⟩ := q; have e9 := e9.symm; subst e9
  change mi_W pP X kX8_wouldTake 5 0 0 4 [(0, .ref B), (1, .int (nI f)), (2, .int (nI g))] [] h _
  refine mi_blk okX8_wouldTake 2 (pc' := 6) (lv' := [(0, .ref B), (1, .int (nI f)), (2, .int (nI g))]) (st' := [.int 1, .int (nI g)]) rfl ?_
  refine mi_ic_lt okX8_wouldTake rfl rfl (fun c_6 => absurd c_6 (nI_nlt (a := g) (b := 1) hg1 (by omega))) (fun c_6 => ?_)
  refine mi_blk okX8_wouldTake 2 (pc' := 12) (lv' := [(0, .ref B), (1, .int (nI f)), (2, .int (nI g))]) (st' := [.int 40, .int (nI g)]) rfl ?_
  refine mi_ic_le okX8_wouldTake rfl rfl (fun c_12 => ?_) (fun c_12 => absurd (nI_le (a := g) (b := 40) hg2 (by decide)) c_12)
  refine mi_blk okX8_wouldTake 1 (pc' := 27) (lv' := [(0, .ref B), (1, .int (nI f)), (2, .int (nI g))]) (st' := [.ref B]) rfl ?_
  refine mi_getf okX8_wouldTake rfl fg_RX8_31 (show 6 ≤ _ by have := hw.z; omega) (show _ < h.1 by have := hw.z; omega) hw.ph (v := .ref (B + 26)) rfl ?_
  refine mi_blk okX8_wouldTake 5 (pc' := 37) (lv' := [(0, .ref B), (1, .int (nI f)), (2, .int (nI g))]) (st' := [.int 240, .int ((nI f) + (nI g)), .int (nI f), .ref (B + 26)]) rfl ?_
  refine mi_min okX8_wouldTake rfl mm_RX8_305 ms_min mz_Math mc_min (by decide) (Nat.le_of_ble_eq_true rfl) ?_
  rw [show (if (240 : Int32) < nI f + nI g then (240 : Int32) else nI f + nI g) = nI (f + m) from hm]
  refine mi_callV okX8_wouldTake (mc := 0) (ms := 0) (mc' := 0) (ms' := 0) (b := (B + 26)) (As := [.int (nI f), .int (nI (f + m))]) (st := []) rfl cv_RX8_310 rfl (by decide) (show 6 ≤ _ by have := hw.z; omega) (show _ < h.1 by have := hw.z; omega) hw.dr rfl (Nat.le_of_ble_eq_true rfl) (c_timeOver hX hd hfm (show 6 ≤ _ by have := hw.z; omega) (show _ < h.1 by have := hw.z; omega) hw.dr hx hs) (fun r h1 q => ?_)
  obtain ⟨rfl, e9⟩ := q; have e9 := e9.symm; subst e9
  change mi_W pP X kX8_wouldTake 5 0 0 43 [(0, .ref B), (1, .int (nI f)), (2, .int (nI g))] [.double (FP.dsub (tv q.2.2.2.2.1.2.1 q.2.2.2.2.1.1 f m).1 q.2.2.2.2.1.2.1)] h _
  exact mi_ret_d okX8_wouldTake rfl rfl ⟨rfl, rfl⟩
set_option maxHeartbeats 4000000 in
set_option maxRecDepth 100000 in
theorem c_wouldMend {X : mi_X} (hX1 : mi_X1 X) {h : mi_H} {B : Nat} {q : ph_T} {fi le : Nat → Nat → Int32} (hw : ph_W B q fi le h) {k : Nat} (hk : k < 240) {t : Int32} (ht0 : ¬ t < 0) (ht1 : t ≤ 65535) : mi_S pP X kX8_wouldMend 5 [.ref B, .int (nI k), .int t] h 0 0 (fun r h1 => r = some (.int (se_jd (nI k) (q.2.1 k).1 (q.2.1 k).2.1 (q.2.1 k).2.2.1 (bl_mend (bl_clr ((q.2.2.1 k).2 ||| t) (q.2.2.1 k).1 16) ((q.2.2.1 k).2 ||| t)).1 (bl_mend (bl_clr ((q.2.2.1 k).2 ||| t) (q.2.2.1 k).1 16) ((q.2.2.1 k).2 ||| t)).2)) ∧ h1 = mi_set h (B + 28) (bl_c (bl_mend (bl_clr ((q.2.2.1 k).2 ||| t) (q.2.2.1 k).1 16) ((q.2.2.1 k).2 ||| t)).1 (bl_mend (bl_clr ((q.2.2.1 k).2 ||| t) (q.2.2.1 k).1 16) ((q.2.2.1 k).2 ||| t)).2)) := by
  refine enX8_wouldMend (Nat.le_of_ble_eq_true rfl) ?_
  refine mi_blk okX8_wouldMend 1 (pc' := 1) (lv' := [(0, .ref B), (1, .int (nI k)), (2, .int t)]) (st' := [.int (nI k)]) rfl ?_
  refine mi_callS okX8_wouldMend (mc := 0) (ms := 0) (mc' := 0) (ms' := 0) (As := [.int (nI k)]) (st := []) rfl cs_RX8_188 rfl (by decide) (Nat.le_of_ble_eq_true rfl) (c_checkSector hk) (fun r h1 q => ?_)
  obtain ⟨rfl, e9⟩ := q; have e9 := e9.symm; subst e9
  change mi_W pP X kX8_wouldMend 5 0 0 4 [(0, .ref B), (1, .int (nI k)), (2, .int t)] [] h _
  refine mi_blk okX8_wouldMend 1 (pc' := 5) (lv' := [(0, .ref B), (1, .int (nI k)), (2, .int t)]) (st' := [.int t]) rfl ?_
  refine mi_if_lt okX8_wouldMend rfl rfl (fun c_5 => absurd c_5 ht0) (fun c_5 => ?_)
  refine mi_blk okX8_wouldMend 1 (pc' := 9) (lv' := [(0, .ref B), (1, .int (nI k)), (2, .int t)]) (st' := [.int t]) rfl ?_
  refine mi_ldcw okX8_wouldMend (v := (65535 : Int32)) rfl kc_RX8_313 ?_
  refine mi_ic_le okX8_wouldMend rfl rfl (fun c_12 => ?_) (fun c_12 => absurd ht1 c_12)
  refine mi_blk okX8_wouldMend 1 (pc' := 27) (lv' := [(0, .ref B), (1, .int (nI k)), (2, .int t)]) (st' := [.ref B]) rfl ?_
  refine mi_getf okX8_wouldMend rfl fg_RX8_11 (show 6 ≤ _ by have := hw.z; omega) (show _ < h.1 by have := hw.z; omega) hw.ph (v := .ref (B + 1)) rfl ?_
  refine mi_blk okX8_wouldMend 1 (pc' := 31) (lv' := [(0, .ref B), (1, .int (nI k)), (2, .int t)]) (st' := [.int (nI k), .ref (B + 1)]) rfl ?_
  refine ph_aaS okX8_wouldMend (s := k) rfl hw hk ?_
  refine mi_blk okX8_wouldMend 2 (pc' := 34) (lv' := [(0, .ref B), (1, .int (nI k)), (2, .int t)]) (st' := [.ref B, .int t, .ref (B + 30 + 2 * k)]) rfl ?_
  refine mi_getf okX8_wouldMend rfl fg_RX8_38 (show 6 ≤ _ by have := hw.z; omega) (show _ < h.1 by have := hw.z; omega) hw.ph (v := .ref (B + 27)) rfl ?_
  refine mi_getf okX8_wouldMend rfl fg_RX8_316 (show 6 ≤ _ by have := hw.z; omega) (show _ < h.1 by have := hw.z; omega) hw.be (v := .ref (B + 28)) rfl ?_
  refine mi_callV okX8_wouldMend (mc := 0) (ms := 0) (mc' := 0) (ms' := 0) (b := (B + 30 + 2 * k)) (As := [.int t, .ref (B + 28)]) (st := []) rfl cv_RX8_319 rfl (by decide) (show 6 ≤ _ by have := hw.z; omega) (show _ < h.1 by have := hw.z; omega) (hw.se k hk) rfl (Nat.le_of_ble_eq_true rfl) (c_stateWithout hX1 (show 6 ≤ _ by have := hw.z; omega) (show _ < h.1 by have := hw.z; omega) (hw.se k hk) (show 6 ≤ _ by have := hw.z; omega) (show _ < h.1 by have := hw.z; omega) (hw.bl k hk) (show 6 ≤ _ by have := hw.z; omega) (show _ < h.1 by have := hw.z; omega) hw.cp (by omega) (by omega)) (fun r h1 q => ?_)
  obtain ⟨rfl, e9⟩ := q; have e9 := e9.symm; subst e9
  change mi_W pP X kX8_wouldMend 5 0 0 43 [(0, .ref B), (1, .int (nI k)), (2, .int t)] [.int (se_jd (nI k) (q.2.1 k).1 (q.2.1 k).2.1 (q.2.1 k).2.2.1 (bl_mend (bl_clr ((q.2.2.1 k).2 ||| t) (q.2.2.1 k).1 16) ((q.2.2.1 k).2 ||| t)).1 (bl_mend (bl_clr ((q.2.2.1 k).2 ||| t) (q.2.2.1 k).1 16) ((q.2.2.1 k).2 ||| t)).2)] (mi_set h (B + 28) (bl_c (bl_mend (bl_clr ((q.2.2.1 k).2 ||| t) (q.2.2.1 k).1 16) ((q.2.2.1 k).2 ||| t)).1 (bl_mend (bl_clr ((q.2.2.1 k).2 ||| t) (q.2.2.1 k).1 16) ((q.2.2.1 k).2 ||| t)).2)) _
  exact mi_ret_i okX8_wouldMend rfl rfl rfl ⟨rfl, rfl⟩
