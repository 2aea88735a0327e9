-- what would be
set_option maxHeartbeats 4000000 in
set_option maxRecDepth 100000 in
theorem e_wouldTake {X : mi_X} {h : mi_H} {B : Nat} (hw : ph_W B ph_0 (fun _ _ => 0) (fun _ _ => 0) h) {O : Nat} (hO : B + 518 ≤ O ∧ O < h.1) {g : Nat → UInt64} (hOc : h.2 O = oD g) (hX : mi_X23 X) {k : Nat} (hk : k < 240) {g9 m : Nat} (g1 : 1 ≤ g9) (g2 : g9 ≤ 40) (hkm : k + m ≤ 240) (hm40 : m ≤ 40) (hm : (if (240 : Int32) < nI k + nI g9 then (240 : Int32) else nI k + nI g9) = nI (k + m)) : mi_SH pP X kL_wouldTake 8 [.ref B, .int (nI k), .int (nI g9), .ref O] h 1 6 (fun r h1 => r = some (.int 0) ∧ hp B h O (oD (va_up g 0 (FP.dsub (tv FP.dconst0 0 k m).1 FP.dconst0))) 0 h1) := by
  refine ehL_wouldTake (Nat.le_of_ble_eq_true rfl) ?_
  refine mi_blk okL_wouldTake 5 (pc' := 5) (lv' := [(0, .ref B), (1, .int (nI k)), (2, .int (nI g9)), (3, .ref O)]) (st' := [.int (nI g9), .int (nI k), .ref B, .int 0, .ref O]) rfl ?_
  refine mi_callV okL_wouldTake (mc := 1) (ms := 6) (mc' := 0) (ms' := 0) (b := B) (As := [.int (nI k), .int (nI g9)]) (st := [.int 0, .ref O]) rfl cv_RL_80 rfl (by decide) (show 6 ≤ _ by have := hw.z; omega) (show _ < h.1 by have := hw.z; omega) hw.ph rfl (Nat.le_of_ble_eq_true rfl) (show mi_S pP X kX8_wouldTake 5 [.ref B, .int (nI k), .int (nI g9)] h 0 0 (fun r h1 => r = some (.double (FP.dsub (tv FP.dconst0 0 k m).1 FP.dconst0)) ∧ h1 = h) from c_wouldTake hX hw (show (0 : Nat) < 240 by decide) hk g1 g2 hkm hm (tv_ok hk hkm hm40).1 (tv_ok hk hkm hm40).2) (fun r h1 q => ?_)
  obtain ⟨rfl, e9⟩ := q; have f : fr B h h1 := (by subst e9; exact ⟨rfl, fun _ _ => rfl⟩)
  change mi_WX _ pP X kL_wouldTake 8 1 6 8 [(0, .ref B), (1, .int (nI k)), (2, .int (nI g9)), (3, .ref O)] [.double (FP.dsub (tv FP.dconst0 0 k m).1 FP.dconst0), .int 0, .ref O] h1 _
  refine mo_dst okL_wouldTake rfl (show 6 ≤ O by have := hw.z; omega) (by rw [f.1]; exact hO.2) ((f.2 O (Or.inr hO.1)).trans hOc) ?_
  refine mi_blk okL_wouldTake 1 (pc' := 20) (lv' := [(0, .ref B), (1, .int (nI k)), (2, .int (nI g9)), (3, .ref O)]) (st' := []) rfl ?_
  refine mi_blk okL_wouldTake 1 (pc' := 21) (lv' := [(0, .ref B), (1, .int (nI k)), (2, .int (nI g9)), (3, .ref O)]) (st' := [.int 0]) rfl ?_
  exact mi_ret_i okL_wouldTake rfl rfl rfl ⟨rfl, hp.ret f⟩
set_option maxHeartbeats 4000000 in
set_option maxRecDepth 100000 in
theorem e_wouldMend {X : mi_X} {h : mi_H} {B : Nat} (hw : ph_W B ph_0 (fun _ _ => 0) (fun _ _ => 0) h) {O : Nat} (hO : B + 518 ≤ O ∧ O < h.1) {g : Nat → Int64} (hOc : h.2 O = oL g) (hX1 : mi_X1 X) {k : Nat} (hk : k < 240) {t : Int32} (g1 : ¬ t < 0) (g2 : t ≤ 65535) : mi_SH pP X kL_wouldMend 8 [.ref B, .int (nI k), .int t, .ref O] h 1 6 (fun r h1 => r = some (.int 0) ∧ hp B h O (oL (va_up g 0 ((2 : Int32).toInt64))) 0 h1) := by
  refine ehL_wouldMend (Nat.le_of_ble_eq_true rfl) ?_
  obtain ⟨R9, s9, r9⟩ := f_wouldMend hw hX1 hk g1 g2
  refine mi_blk okL_wouldMend 5 (pc' := 5) (lv' := [(0, .ref B), (1, .int (nI k)), (2, .int t), (3, .ref O)]) (st' := [.int t, .int (nI k), .ref B, .int 0, .ref O]) rfl ?_
  refine mi_callV okL_wouldMend (mc := 1) (ms := 6) (mc' := 0) (ms' := 0) (b := B) (As := [.int (nI k), .int t]) (st := [.int 0, .ref O]) rfl cv_RL_84 rfl (by decide) (show 6 ≤ _ by have := hw.z; omega) (show _ < h.1 by have := hw.z; omega) hw.ph rfl (Nat.le_of_ble_eq_true rfl) s9 (fun r h1 q => ?_)
  obtain ⟨rfl, e9⟩ := q; have f : fr B h h1 := (r9 h1 e9)
  change mi_WX _ pP X kL_wouldMend 8 1 6 8 [(0, .ref B), (1, .int (nI k)), (2, .int t), (3, .ref O)] [.int 2, .int 0, .ref O] h1 _
  refine mi_blk okL_wouldMend 1 (pc' := 9) (lv' := [(0, .ref B), (1, .int (nI k)), (2, .int t), (3, .ref O)]) (st' := [.long ((2 : Int32).toInt64), .int 0, .ref O]) rfl ?_
  refine mo_lst okL_wouldMend rfl (show 6 ≤ O by have := hw.z; omega) (by rw [f.1]; exact hO.2) ((f.2 O (Or.inr hO.1)).trans hOc) ?_
  refine mi_blk okL_wouldMend 1 (pc' := 21) (lv' := [(0, .ref B), (1, .int (nI k)), (2, .int t), (3, .ref O)]) (st' := []) rfl ?_
  refine mi_blk okL_wouldMend 1 (pc' := 22) (lv' := [(0, .ref B), (1, .int (nI k)), (2, .int t), (3, .ref O)]) (st' := [.int 0]) rfl ?_
  exact mi_ret_i okL_wouldMend rfl rfl rfl ⟨rfl, hp.ret f⟩
