-- lists that are looked through, READS one by one, the checksum
theorem mo_W.tp {M : Nat} {h h1 : mi_H} (hw : mo_W M h) (t : tp h h1) : mo_W M h1 := by
  obtain ⟨hz, hb, ht, f, hf, hg⟩ := hw
  exact ⟨⟨hz.1, Nat.le_trans hz.2 t.1⟩, (t.2 _ (by omega)).trans hb, (t.2 _ (by omega)).trans ht, f, (t.2 _ (by omega)).trans hf, hg⟩
theorem mo_W.lt {M : Nat} {h : mi_H} (hw : mo_W M h) : M < h.1 := by
  have := hw.1
  omega
set_option maxHeartbeats 4000000 in
set_option maxRecDepth 100000 in
theorem m_itr {X : mi_X} {h : mi_H} {a b : Nat} (hE : 6 ≤ a) (ha : a < h.1) (hc : h.2 a = .inr (14, [.int 0, .int 0, .int 0, .null])) (hEb : 6 ≤ b) (hb : b < h.1) (hcb : h.2 b = .inr (13, [.int 0, .ref 5, .int 0])) (hne : b ≠ a) : mi_S pP X kJx35411_init_45d68 1 [.ref a, .ref b] h 0 0 (fun r h1 => r = none ∧ h1 = mi_set h a (.inr (14, [.int 0, .int (-1), .int 0, .ref b]))) := by
  refine enJx35411_init_45d68 (Nat.le_of_ble_eq_true rfl) ?_
  refine mi_blk okJx35411_init_45d68 2 (pc' := 2) (lv' := [(0, .ref a), (1, .ref b)]) (st' := [.ref b, .ref a]) rfl ?_
  refine mi_putF' okJx35411_init_45d68 rfl fd_RJx35411_1 rfl hE ha hc (fs' := [.int 0, .int 0, .int 0, .ref b]) rfl (Nat.le_of_ble_eq_true rfl) rfl rfl ?_
  refine mi_blk okJx35411_init_45d68 1 (pc' := 6) (lv' := [(0, .ref a), (1, .ref b)]) (st' := [.ref a]) rfl ?_
  refine mi_objInit okJx35411_init_45d68 rfl ob_RJx35411_7 ob_i ob_c (by decide) (Nat.le_of_ble_eq_true rfl) ?_
  refine mi_blk okJx35411_init_45d68 2 (pc' := 11) (lv' := [(0, .ref a), (1, .ref b)]) (st' := [.int (-1), .ref a]) rfl ?_
  refine mi_putf' okJx35411_init_45d68 rfl fd_RJx35411_13 hE ha mi_set_self (fs' := [.int 0, .int (-1), .int 0, .ref b]) rfl (Nat.le_of_ble_eq_true rfl) rfl rfl ?_
  rw [mi_set_set]
  refine mi_blk okJx35411_init_45d68 2 (pc' := 16) (lv' := [(0, .ref a), (1, .ref b)]) (st' := [.ref a, .ref a]) rfl ?_
  refine mi_getf okJx35411_init_45d68 rfl fg_RJx35411_1 hE ha mi_set_self (v := .ref b) rfl ?_
  refine mi_getS okJx35411_init_45d68 rfl fs_RJx35411_17 hEb hb ((mi_set_ne hne).trans hcb) (v := .int 0) rfl ?_
  refine mi_putf' okJx35411_init_45d68 rfl fd_RJx35411_22 hE ha mi_set_self (fs' := [.int 0, .int (-1), .int 0, .ref b]) rfl (Nat.le_of_ble_eq_true rfl) rfl rfl ?_
  rw [mi_set_set]
  exact mi_ret_v okJx35411_init_45d68 rfl rfl ⟨rfl, rfl⟩
set_option maxHeartbeats 4000000 in
set_option maxRecDepth 100000 in
theorem m_iterator {X : mi_X} {h : mi_H} {b : Nat} (hEb : 6 ≤ b) (hb : b < h.1) (hcb : h.2 b = .inr (13, [.int 0, .ref 5, .int 0])) : mi_S pP X kJx4a65c_iterator_32c93 2 [.ref b] h 1 4 (fun r h1 => r = some (.ref h.1) ∧ h1 = mi_psh h (.inr (14, [.int 0, .int (-1), .int 0, .ref b]))) := by
  refine enJx4a65c_iterator_32c93 (Nat.le_of_ble_eq_true rfl) ?_
  refine mi_new okJx4a65c_iterator_32c93 (mc := 0) (ms := 0) (ci := 14) (fs := [.int 0, .int 0, .int 0, .null]) rfl cfJx35411 cl_RJx4a65c_267 it_RJx35411 iz_RJx35411 (by decide +kernel) (fun _ => rfl) ?_
  change mi_WX _ pP X kJx4a65c_iterator_32c93 2 0 0 3 [(0, .ref b)] [.ref h.1] (mi_psh h (.inr (14, [.int 0, .int 0, .int 0, .null]))) _
  refine mi_blk okJx4a65c_iterator_32c93 2 (pc' := 5) (lv' := [(0, .ref b)]) (st' := [.ref b, .ref h.1, .ref h.1]) rfl ?_
  refine mi_callI okJx4a65c_iterator_32c93 (mc := 0) (ms := 0) (mc' := 0) (ms' := 0) (b := h.1) (As := [.ref b]) (st := [.ref h.1]) rfl ci_RJx4a65c_269 rfl (by decide) (Nat.le_of_ble_eq_true rfl) (m_itr (h := mi_psh h (.inr (14, [.int 0, .int 0, .int 0, .null]))) (show 6 ≤ h.1 by omega) (Nat.lt_succ_self _) mi_psh_self hEb (Nat.lt_succ_of_lt hb) ((mi_psh_lt hb).trans hcb) (Nat.ne_of_lt hb)) (fun r h1 q => ?_)
  obtain ⟨rfl, e9⟩ := q; subst e9
  change mi_WX _ pP X kJx4a65c_iterator_32c93 2 0 0 8 [(0, .ref b)] [.ref h.1] (mi_set (mi_psh h (.inr (14, [.int 0, .int 0, .int 0, .null]))) h.1 (.inr (14, [.int 0, .int (-1), .int 0, .ref b]))) _
  exact mi_ret_a okJx4a65c_iterator_32c93 rfl rfl (Or.inl ⟨_, rfl⟩) ⟨rfl, mi_set_psh⟩
set_option maxHeartbeats 4000000 in
set_option maxRecDepth 100000 in
theorem m_hasNext {X : mi_X} {h : mi_H} {a b : Nat} (hE : 6 ≤ a) (ha : a < h.1) (hc : h.2 a = .inr (14, [.int 0, .int (-1), .int 0, .ref b])) (hEb : 6 ≤ b) (hb : b < h.1) (hcb : h.2 b = .inr (13, [.int 0, .ref 5, .int 0])) : mi_S pP X kJx35411_hasNext_aae02 0 [.ref a] h 0 0 (fun r h1 => r = some (.int 0) ∧ h1 = h) := by
  refine enJx35411_hasNext_aae02 (Nat.le_of_ble_eq_true rfl) ?_
  refine mi_blk okJx35411_hasNext_aae02 1 (pc' := 1) (lv' := [(0, .ref a)]) (st' := [.ref a]) rfl ?_
  refine mi_getf okJx35411_hasNext_aae02 rfl fg_RJx35411_25 hE ha hc (v := .int 0) rfl ?_
  refine mi_blk okJx35411_hasNext_aae02 1 (pc' := 5) (lv' := [(0, .ref a)]) (st' := [.ref a, .int 0]) rfl ?_
  refine mi_getf okJx35411_hasNext_aae02 rfl fg_RJx35411_1 hE ha hc (v := .ref b) rfl ?_
  refine mi_getf okJx35411_hasNext_aae02 rfl fg_RJx35411_28 hEb hb hcb (v := .int 0) rfl ?_
  refine mi_ic_eq okJx35411_hasNext_aae02 rfl rfl (fun c_11 => ?_) (fun c_11 => absurd (by decide) c_11)
  refine mi_blk okJx35411_hasNext_aae02 1 (pc' := 19) (lv' := [(0, .ref a)]) (st' := [.int 0]) rfl ?_
  exact mi_ret_i okJx35411_hasNext_aae02 rfl rfl rfl ⟨rfl, rfl⟩
set_option maxHeartbeats 4000000 in
set_option maxRecDepth 100000 in
theorem m_end {X : mi_X} {h : mi_H} {M : Nat} (hw : mo_W M h) (hc : h.2 M = mo_c M 0 mo_0) : mi_S pP X kX9_end 3 [.ref M] h 1 4 (fun r h1 => r = some (.int 0) ∧ mp M h 1 h1) := by
  refine enX9_end (Nat.le_of_ble_eq_true rfl) ?_
  refine mi_blk okX9_end 1 (pc' := 1) (lv' := [(0, .ref M)]) (st' := [.ref M]) rfl ?_
  refine mi_getf okX9_end rfl fg_RX9_120 (show 6 ≤ _ by have := hw.1; omega) (show _ < h.1 by have := hw.1; omega) hc (v := .int 0) rfl ?_
  refine mi_if_eq okX9_end rfl rfl (fun c_4 => ?_) (fun c_4 => absurd (by decide) c_4)
  refine mi_blk okX9_end 4 (pc' := 26) (lv' := [(1, .int 1), (0, .ref M)]) (st' := [.ref M]) rfl ?_
  refine mi_getf okX9_end rfl fg_RX9_21 (show 6 ≤ _ by have := hw.1; omega) (show _ < h.1 by have := hw.1; omega) hc (v := .ref (M + 3)) rfl ?_
  refine mi_callV okX9_end (mc := 0) (ms := 0) (mc' := 1) (ms' := 4) (b := (M + 3)) (As := []) (st := []) rfl cv_RX9_150 rfl (by decide) (show 6 ≤ _ by have := hw.1; omega) (show _ < h.1 by have := hw.1; omega) hw.2.2.1 rfl (Nat.le_of_ble_eq_true rfl) (m_iterator (h := h) (show 6 ≤ _ by have := hw.1; omega) (show _ < h.1 by have := hw.1; omega) hw.2.2.1) (fun r h1 q => ?_)
  obtain ⟨rfl, e9⟩ := q; subst e9
  change mi_WX _ pP X kX9_end 3 0 0 32 [(1, .int 1), (0, .ref M)] [.ref h.1] (mi_psh h (.inr (14, [.int 0, .int (-1), .int 0, .ref (M + 3)]))) _
  refine mi_blk okX9_end 2 (pc' := 34) (lv' := [(2, .ref h.1), (1, .int 1), (0, .ref M)]) (st' := [.ref h.1]) rfl ?_
  refine mi_callF okX9_end (mc := 0) (ms := 0) (mc' := 0) (ms' := 0) (b := h.1) (As := []) (st := []) rfl (by decide +kernel) cF_RX9_154 rfl (by decide) (show 6 ≤ h.1 by have := hw.1; omega) (Nat.lt_succ_self _) mi_psh_self rfl (Nat.le_of_ble_eq_true rfl) (m_hasNext (h := (mi_psh h (.inr (14, [.int 0, .int (-1), .int 0, .ref (M + 3)])))) (show 6 ≤ h.1 by have := hw.1; omega) (Nat.lt_succ_self _) mi_psh_self (show 6 ≤ _ by have := hw.1; omega) (Nat.lt_succ_of_lt (show _ < h.1 by have := hw.1; omega)) ((mi_psh_lt (show _ < h.1 by have := hw.1; omega)).trans hw.2.2.1)) (fun r h1 q => ?_)
  obtain ⟨rfl, e9⟩ := q; have e9 := e9.symm; subst e9
  change mi_WX _ pP X kX9_end 3 0 0 39 [(2, .ref h.1), (1, .int 1), (0, .ref M)] [.int 0] (mi_psh h (.inr (14, [.int 0, .int (-1), .int 0, .ref (M + 3)]))) _
  refine mi_if_eq okX9_end rfl rfl (fun c_39 => ?_) (fun c_39 => absurd (by decide) c_39)
  refine mi_blk okX9_end 3 (pc' := 73) (lv' := [(2, .ref h.1), (1, .int 1), (0, .ref M)]) (st' := [.int 1, .int 1, .ref M]) rfl ?_
  refine mi_callV okX9_end (mc := 0) (ms := 0) (mc' := 0) (ms' := 0) (b := M) (As := [.int 1, .int 1]) (st := []) rfl cv_RX9_130 rfl (by decide) (show 6 ≤ _ by have := hw.1; omega) (Nat.lt_succ_of_lt (show _ < h.1 by have := hw.1; omega)) ((mi_psh_lt (show _ < h.1 by have := hw.1; omega)).trans hc) rfl (Nat.le_of_ble_eq_true rfl) (m_start_1 (h := (mi_psh h (.inr (14, [.int 0, .int (-1), .int 0, .ref (M + 3)])))) (u := (0, 0, 0, 4, 0, 0, 0, 0, 0)) (show 6 ≤ _ by have := hw.1; omega) (Nat.lt_succ_of_lt (show _ < h.1 by have := hw.1; omega)) ((mi_psh_lt (show _ < h.1 by have := hw.1; omega)).trans hc) (by decide)) (fun r h1 q => ?_)
  obtain ⟨rfl, e9⟩ := q; subst e9
  change mi_WX _ pP X kX9_end 3 0 0 76 [(2, .ref h.1), (1, .int 1), (0, .ref M)] [.int 1] (mi_set (mi_psh h (.inr (14, [.int 0, .int (-1), .int 0, .ref (M + 3)]))) M (.inr (9, [.int 1, .ref (M + 1), .ref (M + 2), .ref (M + 3), .ref (M + 4), .int 0, .int 0, .int 0, .int 4, .ref (M + 5), .int 0, .double 0, .int 0, .int 0, .int 0]))) _
  refine mi_if_eq okX9_end rfl rfl (fun c_76 => absurd c_76 (by decide)) (fun c_76 => ?_)
  refine mi_blk okX9_end 1 (pc' := 80) (lv' := [(2, .ref h.1), (1, .int 1), (0, .ref M)]) (st' := [.int 0]) rfl ?_
  exact mi_ret_i okX9_end rfl rfl rfl ⟨rfl, Nat.le_succ _, ⟨mo_0, mi_set_self⟩, fun b hb hn => (mi_set_ne (by omega)).trans (mi_psh_lt hb)⟩
set_option maxHeartbeats 4000000 in
set_option maxRecDepth 100000 in
theorem m_file_n {X : mi_X} {h : mi_H} {M : Nat} (hw : mo_W M h) (hc : h.2 M = mo_c M 0 mo_0) {i : Nat} (hi : i < 10) {y z : Int32} (hy : y < 0 ∨ nI 240 ≤ y) : mi_S pP X kX9_file 2 [.ref M, .int (nI i), .int y, .int z] h 0 0 (fun r h1 => r = some (.int 0) ∧ mp M h 2 h1) := by
  refine enX9_file (Nat.le_of_ble_eq_true rfl) ?_
  refine mi_blk okX9_file 3 (pc' := 3) (lv' := [(0, .ref M), (1, .int (nI i)), (2, .int y), (3, .int z)]) (st' := [.int (nI i), .ref M, .ref M]) rfl ?_
  refine mi_callV okX9_file (mc := 0) (ms := 0) (mc' := 0) (ms' := 0) (b := M) (As := [.int (nI i)]) (st := [.ref M]) rfl cv_RX9_163 rfl (by decide) (show 6 ≤ _ by have := hw.1; omega) (show _ < h.1 by have := hw.1; omega) hc rfl (Nat.le_of_ble_eq_true rfl) (m_isNoFile_0 hi) (fun r h1 q => ?_)
  obtain ⟨rfl, e9⟩ := q; have e9 := e9.symm; subst e9
  change mi_WX _ pP X kX9_file 2 0 0 6 [(0, .ref M), (1, .int (nI i)), (2, .int y), (3, .int z)] [.int 0, .ref M] h _
  refine mi_blk okX9_file 1 (pc' := 7) (lv' := [(0, .ref M), (1, .int (nI i)), (2, .int y), (3, .int z)]) (st' := [.int 1, .int 0, .ref M]) rfl ?_
  refine mi_callV okX9_file (mc := 0) (ms := 0) (mc' := 0) (ms' := 0) (b := M) (As := [.int 0, .int 1]) (st := []) rfl cv_RX9_130 rfl (by decide) (show 6 ≤ _ by have := hw.1; omega) (show _ < h.1 by have := hw.1; omega) hc rfl (Nat.le_of_ble_eq_true rfl) (m_start_0 (h := h) (u := (0, 0, 0, 4, 0, 0, 0, 0, 0)) (show 6 ≤ _ by have := hw.1; omega) (show _ < h.1 by have := hw.1; omega) hc) (fun r h1 q => ?_)
  obtain ⟨rfl, e9⟩ := q; subst e9
  change mi_WX _ pP X kX9_file 2 0 0 10 [(0, .ref M), (1, .int (nI i)), (2, .int y), (3, .int z)] [.int 0] (mi_set h M (.inr (9, [.int 0, .ref (M + 1), .ref (M + 2), .ref (M + 3), .ref (M + 4), .int 0, .int 0, .int 0, .int 4, .ref (M + 5), .int 0, .double 0, .int 0, .int 0, .int 0]))) _
  refine mi_if_eq okX9_file rfl rfl (fun c_10 => ?_) (fun c_10 => absurd (by decide) c_10)
  refine mi_blk okX9_file 1 (pc' := 16) (lv' := [(0, .ref M), (1, .int (nI i)), (2, .int y), (3, .int z)]) (st' := [.int y]) rfl ?_
  refine mi_callS okX9_file (mc := 0) (ms := 0) (mc' := 0) (ms' := 0) (As := [.int y]) (st := []) rfl cs_RX9_166 rfl (by decide) (Nat.le_of_ble_eq_true rfl) (m_isNoSector_1 hy) (fun r h1 q => ?_)
  obtain ⟨rfl, e9⟩ := q; have e9 := e9.symm; subst e9
  change mi_WX _ pP X kX9_file 2 0 0 19 [(0, .ref M), (1, .int (nI i)), (2, .int y), (3, .int z)] [.int 1] (mi_set h M (.inr (9, [.int 0, .ref (M + 1), .ref (M + 2), .ref (M + 3), .ref (M + 4), .int 0, .int 0, .int 0, .int 4, .ref (M + 5), .int 0, .double 0, .int 0, .int 0, .int 0]))) _
  refine mi_if_ne okX9_file rfl rfl (fun c_19 => ?_) (fun c_19 => absurd c_19 (by decide))
  refine mi_blk okX9_file 7 (pc' := 54) (lv' := [(5, .int 0), (4, .int 1), (0, .ref M), (1, .int (nI i)), (2, .int y), (3, .int z)]) (st' := [.int z, .int 0]) rfl ?_
  refine mi_ic_ge okX9_file rfl rfl (fun c_54 => ?_) (fun c_54 => ?_)
  · refine mi_blk okX9_file 3 (pc' := 129) (lv' := [(5, .int 0), (4, .int 1), (0, .ref M), (1, .int (nI i)), (2, .int y), (3, .int z)]) (st' := [.int 2, .int 1, .ref M]) rfl ?_
    refine mi_callV okX9_file (mc := 0) (ms := 0) (mc' := 0) (ms' := 0) (b := M) (As := [.int 1, .int 2]) (st := []) rfl cv_RX9_38 rfl (by decide) (show 6 ≤ _ by have := hw.1; omega) (show _ < h.1 by have := hw.1; omega) mi_set_self rfl (Nat.le_of_ble_eq_true rfl) (m_refuse_1 (h := (mi_set h M (.inr (9, [.int 0, .ref (M + 1), .ref (M + 2), .ref (M + 3), .ref (M + 4), .int 0, .int 0, .int 0, .int 4, .ref (M + 5), .int 0, .double 0, .int 0, .int 0, .int 0])))) (u := (0, 0, 0, 4, 0, 0, 0, 0, 0)) (show 6 ≤ _ by have := hw.1; omega) (show _ < h.1 by have := hw.1; omega) mi_set_self (by decide)) (fun r h1 q => ?_)
    obtain ⟨rfl, e9⟩ := q; rw [mi_set_set] at e9; subst e9
    change mi_WX _ pP X kX9_file 2 0 0 132 [(5, .int 0), (4, .int 1), (0, .ref M), (1, .int (nI i)), (2, .int y), (3, .int z)] [.int 1] (mi_set h M (.inr (9, [.int 2, .ref (M + 1), .ref (M + 2), .ref (M + 3), .ref (M + 4), .int 0, .int 0, .int 0, .int 4, .ref (M + 5), .int 0, .double 0, .int 0, .int 0, .int 0]))) _
    refine mi_if_ne okX9_file rfl rfl (fun c_132 => ?_) (fun c_132 => absurd c_132 (by decide))
    refine mi_blk okX9_file 1 (pc' := 156) (lv' := [(5, .int 0), (4, .int 1), (0, .ref M), (1, .int (nI i)), (2, .int y), (3, .int z)]) (st' := [.int 0]) rfl ?_
    exact mi_ret_i okX9_file rfl rfl rfl ⟨rfl, mp.set (0, 0, 0, 4, 0, 0, 0, 0, 0)⟩
  · refine mi_blk okX9_file 1 (pc' := 59) (lv' := [(5, .int 0), (4, .int 1), (0, .ref M), (1, .int (nI i)), (2, .int y), (3, .int z)]) (st' := [.int 1]) rfl ?_
    refine mi_if_ne okX9_file rfl rfl (fun c_59 => ?_) (fun c_59 => absurd c_59 (by decide))
    refine mi_blk okX9_file 3 (pc' := 129) (lv' := [(5, .int 0), (4, .int 1), (0, .ref M), (1, .int (nI i)), (2, .int y), (3, .int z)]) (st' := [.int 2, .int 1, .ref M]) rfl ?_
    refine mi_callV okX9_file (mc := 0) (ms := 0) (mc' := 0) (ms' := 0) (b := M) (As := [.int 1, .int 2]) (st := []) rfl cv_RX9_38 rfl (by decide) (show 6 ≤ _ by have := hw.1; omega) (show _ < h.1 by have := hw.1; omega) mi_set_self rfl (Nat.le_of_ble_eq_true rfl) (m_refuse_1 (h := (mi_set h M (.inr (9, [.int 0, .ref (M + 1), .ref (M + 2), .ref (M + 3), .ref (M + 4), .int 0, .int 0, .int 0, .int 4, .ref (M + 5), .int 0, .double 0, .int 0, .int 0, .int 0])))) (u := (0, 0, 0, 4, 0, 0, 0, 0, 0)) (show 6 ≤ _ by have := hw.1; omega) (show _ < h.1 by have := hw.1; omega) mi_set_self (by decide)) (fun r h1 q => ?_)
    obtain ⟨rfl, e9⟩ := q; rw [mi_set_set] at e9; subst e9
    change mi_WX _ pP X kX9_file 2 0 0 132 [(5, .int 0), (4, .int 1), (0, .ref M), (1, .int (nI i)), (2, .int y), (3, .int z)] [.int 1] (mi_set h M (.inr (9, [.int 2, .ref (M + 1), .ref (M + 2), .ref (M + 3), .ref (M + 4), .int 0, .int 0, .int 0, .int 4, .ref (M + 5), .int 0, .double 0, .int 0, .int 0, .int 0]))) _
    refine mi_if_ne okX9_file rfl rfl (fun c_132 => ?_) (fun c_132 => absurd c_132 (by decide))
    refine mi_blk okX9_file 1 (pc' := 156) (lv' := [(5, .int 0), (4, .int 1), (0, .ref M), (1, .int (nI i)), (2, .int y), (3, .int z)]) (st' := [.int 0]) rfl ?_
    exact mi_ret_i okX9_file rfl rfl rfl ⟨rfl, mp.set (0, 0, 0, 4, 0, 0, 0, 0, 0)⟩
set_option maxHeartbeats 4000000 in
set_option maxRecDepth 100000 in
theorem m_file_l {X : mi_X} {h : mi_H} {M : Nat} (hw : mo_W M h) (hc : h.2 M = mo_c M 0 mo_0) {i : Nat} (hi : i < 10) {k : Nat} (hk : k < 240) {z : Int32} (hz : z < 1 ∨ 20 < z) : mi_S pP X kX9_file 2 [.ref M, .int (nI i), .int (nI k), .int z] h 0 0 (fun r h1 => r = some (.int 0) ∧ mp M h 2 h1) := by
  refine enX9_file (Nat.le_of_ble_eq_true rfl) ?_
  refine mi_blk okX9_file 3 (pc' := 3) (lv' := [(0, .ref M), (1, .int (nI i)), (2, .int (nI k)), (3, .int z)]) (st' := [.int (nI i), .ref M, .ref M]) rfl ?_
  refine mi_callV okX9_file (mc := 0) (ms := 0) (mc' := 0) (ms' := 0) (b := M) (As := [.int (nI i)]) (st := [.ref M]) rfl cv_RX9_163 rfl (by decide) (show 6 ≤ _ by have := hw.1; omega) (show _ < h.1 by have := hw.1; omega) hc rfl (Nat.le_of_ble_eq_true rfl) (m_isNoFile_0 hi) (fun r h1 q => ?_)
  obtain ⟨rfl, e9⟩ := q; have e9 := e9.symm; subst e9
  change mi_WX _ pP X kX9_file 2 0 0 6 [(0, .ref M), (1, .int (nI i)), (2, .int (nI k)), (3, .int z)] [.int 0, .ref M] h _
  refine mi_blk okX9_file 1 (pc' := 7) (lv' := [(0, .ref M), (1, .int (nI i)), (2, .int (nI k)), (3, .int z)]) (st' := [.int 1, .int 0, .ref M]) rfl ?_
  refine mi_callV okX9_file (mc := 0) (ms := 0) (mc' := 0) (ms' := 0) (b := M) (As := [.int 0, .int 1]) (st := []) rfl cv_RX9_130 rfl (by decide) (show 6 ≤ _ by have := hw.1; omega) (show _ < h.1 by have := hw.1; omega) hc rfl (Nat.le_of_ble_eq_true rfl) (m_start_0 (h := h) (u := (0, 0, 0, 4, 0, 0, 0, 0, 0)) (show 6 ≤ _ by have := hw.1; omega) (show _ < h.1 by have := hw.1; omega) hc) (fun r h1 q => ?_)
  obtain ⟨rfl, e9⟩ := q; subst e9
  change mi_WX _ pP X kX9_file 2 0 0 10 [(0, .ref M), (1, .int (nI i)), (2, .int (nI k)), (3, .int z)] [.int 0] (mi_set h M (.inr (9, [.int 0, .ref (M + 1), .ref (M + 2), .ref (M + 3), .ref (M + 4), .int 0, .int 0, .int 0, .int 4, .ref (M + 5), .int 0, .double 0, .int 0, .int 0, .int 0]))) _
  refine mi_if_eq okX9_file rfl rfl (fun c_10 => ?_) (fun c_10 => absurd (by decide) c_10)
  refine mi_blk okX9_file 1 (pc' := 16) (lv' := [(0, .ref M), (1, .int (nI i)), (2, .int (nI k)), (3, .int z)]) (st' := [.int (nI k)]) rfl ?_
  refine mi_callS okX9_file (mc := 0) (ms := 0) (mc' := 0) (ms' := 0) (As := [.int (nI k)]) (st := []) rfl cs_RX9_166 rfl (by decide) (Nat.le_of_ble_eq_true rfl) (m_isNoSector_0 hk) (fun r h1 q => ?_)
  obtain ⟨rfl, e9⟩ := q; have e9 := e9.symm; subst e9
  change mi_WX _ pP X kX9_file 2 0 0 19 [(0, .ref M), (1, .int (nI i)), (2, .int (nI k)), (3, .int z)] [.int 0] (mi_set h M (.inr (9, [.int 0, .ref (M + 1), .ref (M + 2), .ref (M + 3), .ref (M + 4), .int 0, .int 0, .int 0, .int 4, .ref (M + 5), .int 0, .double 0, .int 0, .int 0, .int 0]))) _
  refine mi_if_ne okX9_file rfl rfl (fun c_19 => absurd (by decide) c_19) (fun c_19 => ?_)
  refine mi_blk okX9_file 3 (pc' := 26) (lv' := [(0, .ref M), (1, .int (nI i)), (2, .int (nI k)), (3, .int z)]) (st' := [.int 20, .int 1, .int z]) rfl ?_
  refine mi_callS okX9_file (mc := 0) (ms := 0) (mc' := 0) (ms' := 0) (As := [.int z, .int 1, .int 20]) (st := []) rfl cs_RX9_46 rfl (by decide) (Nat.le_of_ble_eq_true rfl) (m_isIn_0 hz) (fun r h1 q => ?_)
  obtain ⟨rfl, e9⟩ := q; have e9 := e9.symm; subst e9
  change mi_WX _ pP X kX9_file 2 0 0 29 [(0, .ref M), (1, .int (nI i)), (2, .int (nI k)), (3, .int z)] [.int 0] (mi_set h M (.inr (9, [.int 0, .ref (M + 1), .ref (M + 2), .ref (M + 3), .ref (M + 4), .int 0, .int 0, .int 0, .int 4, .ref (M + 5), .int 0, .double 0, .int 0, .int 0, .int 0]))) _
  refine mi_if_eq okX9_file rfl rfl (fun c_29 => ?_) (fun c_29 => absurd (by decide) c_29)
  refine mi_blk okX9_file 7 (pc' := 54) (lv' := [(5, .int 0), (4, .int 1), (0, .ref M), (1, .int (nI i)), (2, .int (nI k)), (3, .int z)]) (st' := [.int z, .int 0]) rfl ?_
  refine mi_ic_ge okX9_file rfl rfl (fun c_54 => ?_) (fun c_54 => ?_)
  · refine mi_blk okX9_file 3 (pc' := 129) (lv' := [(5, .int 0), (4, .int 1), (0, .ref M), (1, .int (nI i)), (2, .int (nI k)), (3, .int z)]) (st' := [.int 2, .int 1, .ref M]) rfl ?_
    refine mi_callV okX9_file (mc := 0) (ms := 0) (mc' := 0) (ms' := 0) (b := M) (As := [.int 1, .int 2]) (st := []) rfl cv_RX9_38 rfl (by decide) (show 6 ≤ _ by have := hw.1; omega) (show _ < h.1 by have := hw.1; omega) mi_set_self rfl (Nat.le_of_ble_eq_true rfl) (m_refuse_1 (h := (mi_set h M (.inr (9, [.int 0, .ref (M + 1), .ref (M + 2), .ref (M + 3), .ref (M + 4), .int 0, .int 0, .int 0, .int 4, .ref (M + 5), .int 0, .double 0, .int 0, .int 0, .int 0])))) (u := (0, 0, 0, 4, 0, 0, 0, 0, 0)) (show 6 ≤ _ by have := hw.1; omega) (show _ < h.1 by have := hw.1; omega) mi_set_self (by decide)) (fun r h1 q => ?_)
    obtain ⟨rfl, e9⟩ := q; rw [mi_set_set] at e9; subst e9
    change mi_WX _ pP X kX9_file 2 0 0 132 [(5, .int 0), (4, .int 1), (0, .ref M), (1, .int (nI i)), (2, .int (nI k)), (3, .int z)] [.int 1] (mi_set h M (.inr (9, [.int 2, .ref (M + 1), .ref (M + 2), .ref (M + 3), .ref (M + 4), .int 0, .int 0, .int 0, .int 4, .ref (M + 5), .int 0, .double 0, .int 0, .int 0, .int 0]))) _
    refine mi_if_ne okX9_file rfl rfl (fun c_132 => ?_) (fun c_132 => absurd c_132 (by decide))
    refine mi_blk okX9_file 1 (pc' := 156) (lv' := [(5, .int 0), (4, .int 1), (0, .ref M), (1, .int (nI i)), (2, .int (nI k)), (3, .int z)]) (st' := [.int 0]) rfl ?_
    exact mi_ret_i okX9_file rfl rfl rfl ⟨rfl, mp.set (0, 0, 0, 4, 0, 0, 0, 0, 0)⟩
  · refine mi_blk okX9_file 1 (pc' := 59) (lv' := [(5, .int 0), (4, .int 1), (0, .ref M), (1, .int (nI i)), (2, .int (nI k)), (3, .int z)]) (st' := [.int 1]) rfl ?_
    refine mi_if_ne okX9_file rfl rfl (fun c_59 => ?_) (fun c_59 => absurd c_59 (by decide))
    refine mi_blk okX9_file 3 (pc' := 129) (lv' := [(5, .int 0), (4, .int 1), (0, .ref M), (1, .int (nI i)), (2, .int (nI k)), (3, .int z)]) (st' := [.int 2, .int 1, .ref M]) rfl ?_
    refine mi_callV okX9_file (mc := 0) (ms := 0) (mc' := 0) (ms' := 0) (b := M) (As := [.int 1, .int 2]) (st := []) rfl cv_RX9_38 rfl (by decide) (show 6 ≤ _ by have := hw.1; omega) (show _ < h.1 by have := hw.1; omega) mi_set_self rfl (Nat.le_of_ble_eq_true rfl) (m_refuse_1 (h := (mi_set h M (.inr (9, [.int 0, .ref (M + 1), .ref (M + 2), .ref (M + 3), .ref (M + 4), .int 0, .int 0, .int 0, .int 4, .ref (M + 5), .int 0, .double 0, .int 0, .int 0, .int 0])))) (u := (0, 0, 0, 4, 0, 0, 0, 0, 0)) (show 6 ≤ _ by have := hw.1; omega) (show _ < h.1 by have := hw.1; omega) mi_set_self (by decide)) (fun r h1 q => ?_)
    obtain ⟨rfl, e9⟩ := q; rw [mi_set_set] at e9; subst e9
    change mi_WX _ pP X kX9_file 2 0 0 132 [(5, .int 0), (4, .int 1), (0, .ref M), (1, .int (nI i)), (2, .int (nI k)), (3, .int z)] [.int 1] (mi_set h M (.inr (9, [.int 2, .ref (M + 1), .ref (M + 2), .ref (M + 3), .ref (M + 4), .int 0, .int 0, .int 0, .int 4, .ref (M + 5), .int 0, .double 0, .int 0, .int 0, .int 0]))) _
    refine mi_if_ne okX9_file rfl rfl (fun c_132 => ?_) (fun c_132 => absurd c_132 (by decide))
    refine mi_blk okX9_file 1 (pc' := 156) (lv' := [(5, .int 0), (4, .int 1), (0, .ref M), (1, .int (nI i)), (2, .int (nI k)), (3, .int z)]) (st' := [.int 0]) rfl ?_
    exact mi_ret_i okX9_file rfl rfl rfl ⟨rfl, mp.set (0, 0, 0, 4, 0, 0, 0, 0, 0)⟩
set_option maxHeartbeats 4000000 in
set_option maxRecDepth 100000 in
theorem m_file_o {X : mi_X} {h : mi_H} {M : Nat} (hw : mo_W M h) (hc : h.2 M = mo_c M 0 mo_0) {i : Nat} (hi : i < 10) {k : Nat} (hk : k < 240) {z : Int32} (h1 : ¬ z < 1) (h2 : ¬ 20 < z) (hz0 : ¬ z ≤ 0) : mi_S pP X kX9_file 2 [.ref M, .int (nI i), .int (nI k), .int z] h 0 0 (fun r h1 => r = some (.int 0) ∧ mp M h 2 h1) := by
  refine enX9_file (Nat.le_of_ble_eq_true rfl) ?_
  refine mi_blk okX9_file 3 (pc' := 3) (lv' := [(0, .ref M), (1, .int (nI i)), (2, .int (nI k)), (3, .int z)]) (st' := [.int (nI i), .ref M, .ref M]) rfl ?_
  refine mi_callV okX9_file (mc := 0) (ms := 0) (mc' := 0) (ms' := 0) (b := M) (As := [.int (nI i)]) (st := [.ref M]) rfl cv_RX9_163 rfl (by decide) (show 6 ≤ _ by have := hw.1; omega) (show _ < h.1 by have := hw.1; omega) hc rfl (Nat.le_of_ble_eq_true rfl) (m_isNoFile_0 hi) (fun r h1 q => ?_)
  obtain ⟨rfl, e9⟩ := q; have e9 := e9.symm; subst e9
  change mi_WX _ pP X kX9_file 2 0 0 6 [(0, .ref M), (1, .int (nI i)), (2, .int (nI k)), (3, .int z)] [.int 0, .ref M] h _
  refine mi_blk okX9_file 1 (pc' := 7) (lv' := [(0, .ref M), (1, .int (nI i)), (2, .int (nI k)), (3, .int z)]) (st' := [.int 1, .int 0, .ref M]) rfl ?_
  refine mi_callV okX9_file (mc := 0) (ms := 0) (mc' := 0) (ms' := 0) (b := M) (As := [.int 0, .int 1]) (st := []) rfl cv_RX9_130 rfl (by decide) (show 6 ≤ _ by have := hw.1; omega) (show _ < h.1 by have := hw.1; omega) hc rfl (Nat.le_of_ble_eq_true rfl) (m_start_0 (h := h) (u := (0, 0, 0, 4, 0, 0, 0, 0, 0)) (show 6 ≤ _ by have := hw.1; omega) (show _ < h.1 by have := hw.1; omega) hc) (fun r h1 q => ?_)
  obtain ⟨rfl, e9⟩ := q; subst e9
  change mi_WX _ pP X kX9_file 2 0 0 10 [(0, .ref M), (1, .int (nI i)), (2, .int (nI k)), (3, .int z)] [.int 0] (mi_set h M (.inr (9, [.int 0, .ref (M + 1), .ref (M + 2), .ref (M + 3), .ref (M + 4), .int 0, .int 0, .int 0, .int 4, .ref (M + 5), .int 0, .double 0, .int 0, .int 0, .int 0]))) _
  refine mi_if_eq okX9_file rfl rfl (fun c_10 => ?_) (fun c_10 => absurd (by decide) c_10)
  refine mi_blk okX9_file 1 (pc' := 16) (lv' := [(0, .ref M), (1, .int (nI i)), (2, .int (nI k)), (3, .int z)]) (st' := [.int (nI k)]) rfl ?_
  refine mi_callS okX9_file (mc := 0) (ms := 0) (mc' := 0) (ms' := 0) (As := [.int (nI k)]) (st := []) rfl cs_RX9_166 rfl (by decide) (Nat.le_of_ble_eq_true rfl) (m_isNoSector_0 hk) (fun r h1 q => ?_)
  obtain ⟨rfl, e9⟩ := q; have e9 := e9.symm; subst e9
  change mi_WX _ pP X kX9_file 2 0 0 19 [(0, .ref M), (1, .int (nI i)), (2, .int (nI k)), (3, .int z)] [.int 0] (mi_set h M (.inr (9, [.int 0, .ref (M + 1), .ref (M + 2), .ref (M + 3), .ref (M + 4), .int 0, .int 0, .int 0, .int 4, .ref (M + 5), .int 0, .double 0, .int 0, .int 0, .int 0]))) _
  refine mi_if_ne okX9_file rfl rfl (fun c_19 => absurd (by decide) c_19) (fun c_19 => ?_)
  refine mi_blk okX9_file 3 (pc' := 26) (lv' := [(0, .ref M), (1, .int (nI i)), (2, .int (nI k)), (3, .int z)]) (st' := [.int 20, .int 1, .int z]) rfl ?_
  refine mi_callS okX9_file (mc := 0) (ms := 0) (mc' := 0) (ms' := 0) (As := [.int z, .int 1, .int 20]) (st := []) rfl cs_RX9_46 rfl (by decide) (Nat.le_of_ble_eq_true rfl) (m_isIn_1 h1 h2) (fun r h1 q => ?_)
  obtain ⟨rfl, e9⟩ := q; have e9 := e9.symm; subst e9
  change mi_WX _ pP X kX9_file 2 0 0 29 [(0, .ref M), (1, .int (nI i)), (2, .int (nI k)), (3, .int z)] [.int 1] (mi_set h M (.inr (9, [.int 0, .ref (M + 1), .ref (M + 2), .ref (M + 3), .ref (M + 4), .int 0, .int 0, .int 0, .int 4, .ref (M + 5), .int 0, .double 0, .int 0, .int 0, .int 0]))) _
  refine mi_if_eq okX9_file rfl rfl (fun c_29 => absurd c_29 (by decide)) (fun c_29 => ?_)
  refine mi_blk okX9_file 4 (pc' := 38) (lv' := [(0, .ref M), (1, .int (nI i)), (2, .int (nI k)), (3, .int z)]) (st' := [.int 240, .int ((nI k) + z)]) rfl ?_
  refine mi_ic_le okX9_file rfl rfl (fun c_38 => ?_) (fun c_38 => ?_)
  · refine mi_blk okX9_file 6 (pc' := 54) (lv' := [(5, .int 0), (4, .int 0), (0, .ref M), (1, .int (nI i)), (2, .int (nI k)), (3, .int z)]) (st' := [.int z, .int 0]) rfl ?_
    refine mi_ic_ge okX9_file rfl rfl (fun c_54 => absurd c_54 hz0) (fun c_54 => ?_)
    refine mi_blk okX9_file 1 (pc' := 59) (lv' := [(5, .int 0), (4, .int 0), (0, .ref M), (1, .int (nI i)), (2, .int (nI k)), (3, .int z)]) (st' := [.int 0]) rfl ?_
    refine mi_if_ne okX9_file rfl rfl (fun c_59 => absurd (by decide) c_59) (fun c_59 => ?_)
    refine mi_blk okX9_file 1 (pc' := 63) (lv' := [(5, .int 0), (4, .int 0), (0, .ref M), (1, .int (nI i)), (2, .int (nI k)), (3, .int z)]) (st' := [.ref M]) rfl ?_
    refine mi_getf okX9_file rfl fg_RX9_25 (show 6 ≤ _ by have := hw.1; omega) (show _ < h.1 by have := hw.1; omega) mi_set_self (v := .ref (M + 4)) rfl ?_
    refine mi_blk okX9_file 1 (pc' := 67) (lv' := [(5, .int 0), (4, .int 0), (0, .ref M), (1, .int (nI i)), (2, .int (nI k)), (3, .int z)]) (st' := [.int (nI k), .ref (M + 4)]) rfl ?_
    refine mo_iao okX9_file (k := k) rfl (hw.set _) hk ?_
    refine mi_blk okX9_file 1 (pc' := 69) (lv' := [(5, .int 0), (4, .int 0), (0, .ref M), (1, .int (nI i)), (2, .int (nI k)), (3, .int z)]) (st' := [.int (-1), .int (-1)]) rfl ?_
    refine mi_ic_eq okX9_file rfl rfl (fun c_69 => ?_) (fun c_69 => absurd (by decide) c_69)
    refine mi_blk okX9_file 7 (pc' := 54) (lv' := [(5, .int 1), (4, .int 1), (0, .ref M), (1, .int (nI i)), (2, .int (nI k)), (3, .int z)]) (st' := [.int z, .int 1]) rfl ?_
    refine mi_ic_ge okX9_file rfl rfl (fun c_54 => ?_) (fun c_54 => ?_)
    · refine mi_blk okX9_file 3 (pc' := 129) (lv' := [(5, .int 1), (4, .int 1), (0, .ref M), (1, .int (nI i)), (2, .int (nI k)), (3, .int z)]) (st' := [.int 2, .int 1, .ref M]) rfl ?_
      refine mi_callV okX9_file (mc := 0) (ms := 0) (mc' := 0) (ms' := 0) (b := M) (As := [.int 1, .int 2]) (st := []) rfl cv_RX9_38 rfl (by decide) (show 6 ≤ _ by have := hw.1; omega) (show _ < h.1 by have := hw.1; omega) mi_set_self rfl (Nat.le_of_ble_eq_true rfl) (m_refuse_1 (h := (mi_set h M (.inr (9, [.int 0, .ref (M + 1), .ref (M + 2), .ref (M + 3), .ref (M + 4), .int 0, .int 0, .int 0, .int 4, .ref (M + 5), .int 0, .double 0, .int 0, .int 0, .int 0])))) (u := (0, 0, 0, 4, 0, 0, 0, 0, 0)) (show 6 ≤ _ by have := hw.1; omega) (show _ < h.1 by have := hw.1; omega) mi_set_self (by decide)) (fun r h1 q => ?_)
      obtain ⟨rfl, e9⟩ := q; rw [mi_set_set] at e9; subst e9
      change mi_WX _ pP X kX9_file 2 0 0 132 [(5, .int 1), (4, .int 1), (0, .ref M), (1, .int (nI i)), (2, .int (nI k)), (3, .int z)] [.int 1] (mi_set h M (.inr (9, [.int 2, .ref (M + 1), .ref (M + 2), .ref (M + 3), .ref (M + 4), .int 0, .int 0, .int 0, .int 4, .ref (M + 5), .int 0, .double 0, .int 0, .int 0, .int 0]))) _
      refine mi_if_ne okX9_file rfl rfl (fun c_132 => ?_) (fun c_132 => absurd c_132 (by decide))
      refine mi_blk okX9_file 1 (pc' := 156) (lv' := [(5, .int 1), (4, .int 1), (0, .ref M), (1, .int (nI i)), (2, .int (nI k)), (3, .int z)]) (st' := [.int 0]) rfl ?_
      exact mi_ret_i okX9_file rfl rfl rfl ⟨rfl, mp.set (0, 0, 0, 4, 0, 0, 0, 0, 0)⟩
    · refine mi_blk okX9_file 1 (pc' := 59) (lv' := [(5, .int 1), (4, .int 1), (0, .ref M), (1, .int (nI i)), (2, .int (nI k)), (3, .int z)]) (st' := [.int 1]) rfl ?_
      refine mi_if_ne okX9_file rfl rfl (fun c_59 => ?_) (fun c_59 => absurd c_59 (by decide))
      refine mi_blk okX9_file 3 (pc' := 129) (lv' := [(5, .int 1), (4, .int 1), (0, .ref M), (1, .int (nI i)), (2, .int (nI k)), (3, .int z)]) (st' := [.int 2, .int 1, .ref M]) rfl ?_
      refine mi_callV okX9_file (mc := 0) (ms := 0) (mc' := 0) (ms' := 0) (b := M) (As := [.int 1, .int 2]) (st := []) rfl cv_RX9_38 rfl (by decide) (show 6 ≤ _ by have := hw.1; omega) (show _ < h.1 by have := hw.1; omega) mi_set_self rfl (Nat.le_of_ble_eq_true rfl) (m_refuse_1 (h := (mi_set h M (.inr (9, [.int 0, .ref (M + 1), .ref (M + 2), .ref (M + 3), .ref (M + 4), .int 0, .int 0, .int 0, .int 4, .ref (M + 5), .int 0, .double 0, .int 0, .int 0, .int 0])))) (u := (0, 0, 0, 4, 0, 0, 0, 0, 0)) (show 6 ≤ _ by have := hw.1; omega) (show _ < h.1 by have := hw.1; omega) mi_set_self (by decide)) (fun r h1 q => ?_)
      obtain ⟨rfl, e9⟩ := q; rw [mi_set_set] at e9; subst e9
      change mi_WX _ pP X kX9_file 2 0 0 132 [(5, .int 1), (4, .int 1), (0, .ref M), (1, .int (nI i)), (2, .int (nI k)), (3, .int z)] [.int 1] (mi_set h M (.inr (9, [.int 2, .ref (M + 1), .ref (M + 2), .ref (M + 3), .ref (M + 4), .int 0, .int 0, .int 0, .int 4, .ref (M + 5), .int 0, .double 0, .int 0, .int 0, .int 0]))) _
      refine mi_if_ne okX9_file rfl rfl (fun c_132 => ?_) (fun c_132 => absurd c_132 (by decide))
      refine mi_blk okX9_file 1 (pc' := 156) (lv' := [(5, .int 1), (4, .int 1), (0, .ref M), (1, .int (nI i)), (2, .int (nI k)), (3, .int z)]) (st' := [.int 0]) rfl ?_
      exact mi_ret_i okX9_file rfl rfl rfl ⟨rfl, mp.set (0, 0, 0, 4, 0, 0, 0, 0, 0)⟩
  · refine mi_blk okX9_file 7 (pc' := 54) (lv' := [(5, .int 0), (4, .int 1), (0, .ref M), (1, .int (nI i)), (2, .int (nI k)), (3, .int z)]) (st' := [.int z, .int 0]) rfl ?_
    refine mi_ic_ge okX9_file rfl rfl (fun c_54 => absurd c_54 hz0) (fun c_54 => ?_)
    refine mi_blk okX9_file 1 (pc' := 59) (lv' := [(5, .int 0), (4, .int 1), (0, .ref M), (1, .int (nI i)), (2, .int (nI k)), (3, .int z)]) (st' := [.int 1]) rfl ?_
    refine mi_if_ne okX9_file rfl rfl (fun c_59 => ?_) (fun c_59 => absurd c_59 (by decide))
    refine mi_blk okX9_file 3 (pc' := 129) (lv' := [(5, .int 0), (4, .int 1), (0, .ref M), (1, .int (nI i)), (2, .int (nI k)), (3, .int z)]) (st' := [.int 2, .int 1, .ref M]) rfl ?_
    refine mi_callV okX9_file (mc := 0) (ms := 0) (mc' := 0) (ms' := 0) (b := M) (As := [.int 1, .int 2]) (st := []) rfl cv_RX9_38 rfl (by decide) (show 6 ≤ _ by have := hw.1; omega) (show _ < h.1 by have := hw.1; omega) mi_set_self rfl (Nat.le_of_ble_eq_true rfl) (m_refuse_1 (h := (mi_set h M (.inr (9, [.int 0, .ref (M + 1), .ref (M + 2), .ref (M + 3), .ref (M + 4), .int 0, .int 0, .int 0, .int 4, .ref (M + 5), .int 0, .double 0, .int 0, .int 0, .int 0])))) (u := (0, 0, 0, 4, 0, 0, 0, 0, 0)) (show 6 ≤ _ by have := hw.1; omega) (show _ < h.1 by have := hw.1; omega) mi_set_self (by decide)) (fun r h1 q => ?_)
    obtain ⟨rfl, e9⟩ := q; rw [mi_set_set] at e9; subst e9
    change mi_WX _ pP X kX9_file 2 0 0 132 [(5, .int 0), (4, .int 1), (0, .ref M), (1, .int (nI i)), (2, .int (nI k)), (3, .int z)] [.int 1] (mi_set h M (.inr (9, [.int 2, .ref (M + 1), .ref (M + 2), .ref (M + 3), .ref (M + 4), .int 0, .int 0, .int 0, .int 4, .ref (M + 5), .int 0, .double 0, .int 0, .int 0, .int 0]))) _
    refine mi_if_ne okX9_file rfl rfl (fun c_132 => ?_) (fun c_132 => absurd c_132 (by decide))
    refine mi_blk okX9_file 1 (pc' := 156) (lv' := [(5, .int 0), (4, .int 1), (0, .ref M), (1, .int (nI i)), (2, .int (nI k)), (3, .int z)]) (st' := [.int 0]) rfl ?_
    exact mi_ret_i okX9_file rfl rfl rfl ⟨rfl, mp.set (0, 0, 0, 4, 0, 0, 0, 0, 0)⟩
theorem m_seekA {X : mi_X} {h : mi_H} {i j : Nat} (hij : i = 0 ∨ i = j) (hj : j < 240) : mi_S pP X kX9_seekFrom 1 [.int (nI i), .int (nI j)] h 0 0 (fun r h1 => r = some (.double (dr_sk i j)) ∧ h1 = h) := by
  rcases hij with rfl | rfl
  · exact m_seekFrom hj
  · refine enX9_seekFrom (Nat.le_of_ble_eq_true rfl) ?_
    rw [show dr_sk i i = FP.dconst0 from if_pos rfl]
    refine mi_blk okX9_seekFrom 2 (pc' := 2) (lv' := [(0, .int (nI i)), (1, .int (nI i))]) (st' := [.int (nI i), .int (nI i)]) rfl ?_
    refine mi_ic_ne okX9_seekFrom rfl rfl (fun c_2 => absurd rfl c_2) (fun c_2 => ?_)
    refine mi_blk okX9_seekFrom 1 (pc' := 6) (lv' := [(0, .int (nI i)), (1, .int (nI i))]) (st' := [.double FP.dconst0]) rfl ?_
    exact mi_ret_d okX9_seekFrom rfl rfl ⟨rfl, rfl⟩
theorem tv_at {k : Nat} (hk : k < 240) (t : Nat) (ht : k + t < 240) : (tv FP.dconst0 0 k t).2 = 0 ∨ (tv FP.dconst0 0 k t).2 = k + t := by
  cases t with
  | zero => exact Or.inl rfl
  | succ t =>
    refine Or.inr ?_
    show (if 239 < k + t + 1 then 239 else k + t + 1) = k + (t + 1)
    rw [if_neg (by omega)]
    omega
theorem fst_min {k g : Nat} (hk : k < 240) (hg : g ≤ 40) : ∃ m, k + m ≤ 240 ∧ m ≤ 40 ∧ (if nI k + nI g < (240 : Int32) then nI k + nI g else (240 : Int32)) = nI (k + m) ∧ (if (240 : Int32) < nI k + nI g then (240 : Int32) else nI k + nI g) = nI (k + m) := by
  rw [nI_add]
  show ∃ m, k + m ≤ 240 ∧ m ≤ 40 ∧ (if nI (k + g) < nI 240 then nI (k + g) else nI 240) = nI (k + m) ∧ (if nI 240 < nI (k + g) then nI 240 else nI (k + g)) = nI (k + m)
  by_cases c : k + g < 240
  · exact ⟨g, by omega, hg, if_pos (nI_lt (a := k + g) (b := 240) c (by decide)), if_neg (nI_nlt (a := 240) (b := k + g) (by omega) (by omega))⟩
  · refine ⟨240 - k, by omega, by omega, ?_, ?_⟩
    · rw [if_neg (nI_nlt (a := k + g) (b := 240) (by omega) (by omega)), show k + (240 - k) = 240 by omega]
    · rw [show k + (240 - k) = 240 by omega]
      by_cases e : k + g = 240
      · rw [e, if_neg (nI_nlt (a := 240) (b := 240) (by omega) (by omega))]
      · rw [if_pos (nI_lt (a := 240) (b := k + g) (by omega) (by omega))]
theorem tv_ok {k m : Nat} (hk : k < 240) (hm : k + m ≤ 240) (h40 : m ≤ 40) : (∀ i, i < m → dr_okc (tv FP.dconst0 0 k i).1 (tv FP.dconst0 0 k i).2 (k + i)) ∧ vf_n64 (FP.dsub (tv FP.dconst0 0 k m).1 FP.dconst0) := by
  obtain ⟨p1, -, p3⟩ := ck_tv (i := 0) (f := k) ck_0 (by decide) m hm (by omega)
  exact ⟨p3, n64_of (sub_ne p1.1 ck_0.1)⟩
set_option maxHeartbeats 4000000 in
set_option maxRecDepth 100000 in
theorem lm_wt {X : mi_X} {h : mi_H} {M : Nat} (hw : mo_W M h) {th : Int32} (hc : h.2 M = mo_c M th mo_0) {k : Nat} (hk : k < 240) {m : Nat} (hkm : k + m ≤ 240) {y : Int32} (hm : (if nI k + y < (240 : Int32) then nI k + y else (240 : Int32)) = nI (k + m)) (hx : ∀ i, i < m → dr_okc (tv FP.dconst0 0 k i).1 (tv FP.dconst0 0 k i).2 (k + i)) (hs : vf_n64 (FP.dsub (tv FP.dconst0 0 k m).1 FP.dconst0)) {Q : Option Value → mi_H → Prop} (hQ : Q (some (.double (FP.dsub (tv FP.dconst0 0 k m).1 FP.dconst0))) h) : ∀ (n t : Nat), t + n = m → mi_W pP X kX9_wouldTake 2 0 0 51 [(6, .int (nI (k + t))), (5, .int (nI (tv FP.dconst0 0 k t).2)), (3, .double ((tv FP.dconst0 0 k t).1)), (0, .ref M), (1, .int (nI k)), (2, .int y)] [] h Q := by
  intro n
  induction n with
  | zero =>
    intro t ht
    obtain rfl : t = m := by omega
    refine mi_blk okX9_wouldTake 5 (pc' := 59) (lv' := [(6, .int (nI (k + t))), (5, .int (nI (tv FP.dconst0 0 k t).2)), (3, .double ((tv FP.dconst0 0 k t).1)), (0, .ref M), (1, .int (nI k)), (2, .int y)]) (st' := [.int ((nI k) + y), .int 240, .int (nI (k + t))]) rfl ?_
    refine mi_min okX9_wouldTake rfl mm_RX9_194 ms_min mz_Math mc_min (by decide) (Nat.le_of_ble_eq_true rfl) ?_
    rw [hm]
    refine mi_ic_ge okX9_wouldTake rfl rfl (fun c_62 => ?_) (fun c_62 => absurd (Int32.le_refl _) c_62)
    refine mi_blk okX9_wouldTake 2 (pc' := 98) (lv' := [(6, .int (nI (k + t))), (5, .int (nI (tv FP.dconst0 0 k t).2)), (3, .double ((tv FP.dconst0 0 k t).1)), (0, .ref M), (1, .int (nI k)), (2, .int y)]) (st' := [.ref M, .double ((tv FP.dconst0 0 k t).1)]) rfl ?_
    refine mi_getf okX9_wouldTake rfl fg_RX9_197 (show 6 ≤ _ by have := hw.1; omega) (show _ < h.1 by have := hw.1; omega) hc (v := .double 0) rfl ?_
    refine mi_dsub okX9_wouldTake rfl hs ?_
    exact mi_ret_d okX9_wouldTake rfl rfl hQ
  | succ n ih =>
    intro t ht
    refine mi_blk okX9_wouldTake 5 (pc' := 59) (lv' := [(6, .int (nI (k + t))), (5, .int (nI (tv FP.dconst0 0 k t).2)), (3, .double ((tv FP.dconst0 0 k t).1)), (0, .ref M), (1, .int (nI k)), (2, .int y)]) (st' := [.int ((nI k) + y), .int 240, .int (nI (k + t))]) rfl ?_
    refine mi_min okX9_wouldTake rfl mm_RX9_194 ms_min mz_Math mc_min (by decide) (Nat.le_of_ble_eq_true rfl) ?_
    rw [hm]
    refine mi_ic_ge okX9_wouldTake rfl rfl (fun c_62 => absurd c_62 (nI_ge (a := k + t) (b := k + m) (by omega) (by omega))) (fun c_62 => ?_)
    refine mi_blk okX9_wouldTake 3 (pc' := 70) (lv' := [(6, .int (nI (k + t))), (5, .int (nI (tv FP.dconst0 0 k t).2)), (3, .double ((tv FP.dconst0 0 k t).1)), (0, .ref M), (1, .int (nI k)), (2, .int y)]) (st' := [.int (nI (k + t)), .int (nI (tv FP.dconst0 0 k t).2), .double ((tv FP.dconst0 0 k t).1)]) rfl ?_
    refine mi_callS okX9_wouldTake (mc := 0) (ms := 0) (mc' := 0) (ms' := 0) (As := [.int (nI (tv FP.dconst0 0 k t).2), .int (nI (k + t))]) (st := [.double ((tv FP.dconst0 0 k t).1)]) rfl cs_RX9_204 rfl (by decide) (Nat.le_of_ble_eq_true rfl) (m_seekA (tv_at hk t (by omega)) (show k + t < 240 by omega)) (fun r h1 q => ?_)
    obtain ⟨rfl, e9⟩ := q; have e9 := e9.symm; subst e9
    change mi_WX _ pP X kX9_wouldTake 2 0 0 73 [(6, .int (nI (k + t))), (5, .int (nI (tv FP.dconst0 0 k t).2)), (3, .double ((tv FP.dconst0 0 k t).1)), (0, .ref M), (1, .int (nI k)), (2, .int y)] [.double (dr_sk (tv FP.dconst0 0 k t).2 (k + t)), .double ((tv FP.dconst0 0 k t).1)] h _
    refine mi_dadd okX9_wouldTake rfl (hx t (by omega)).1 ?_
    refine mi_blk okX9_wouldTake 3 (pc' := 78) (lv' := [(3, .double (FP.dadd ((tv FP.dconst0 0 k t).1) (dr_sk (tv FP.dconst0 0 k t).2 (k + t)))), (6, .int (nI (k + t))), (5, .int (nI (tv FP.dconst0 0 k t).2)), (0, .ref M), (1, .int (nI k)), (2, .int y)]) (st' := [.int (nI (k + t)), .double (FP.dadd ((tv FP.dconst0 0 k t).1) (dr_sk (tv FP.dconst0 0 k t).2 (k + t)))]) rfl ?_
    refine mi_callS okX9_wouldTake (mc := 0) (ms := 0) (mc' := 0) (ms' := 0) (As := [.int (nI (k + t))]) (st := [.double (FP.dadd ((tv FP.dconst0 0 k t).1) (dr_sk (tv FP.dconst0 0 k t).2 (k + t)))]) rfl cs_RX9_208 rfl (by decide) (Nat.le_of_ble_eq_true rfl) (m_readOf (show k + t < 240 by omega)) (fun r h1 q => ?_)
    obtain ⟨rfl, e9⟩ := q; have e9 := e9.symm; subst e9
    change mi_WX _ pP X kX9_wouldTake 2 0 0 81 [(3, .double (FP.dadd ((tv FP.dconst0 0 k t).1) (dr_sk (tv FP.dconst0 0 k t).2 (k + t)))), (6, .int (nI (k + t))), (5, .int (nI (tv FP.dconst0 0 k t).2)), (0, .ref M), (1, .int (nI k)), (2, .int y)] [.double (sp_step (k + t)), .double (FP.dadd ((tv FP.dconst0 0 k t).1) (dr_sk (tv FP.dconst0 0 k t).2 (k + t)))] h _
    refine mi_dadd okX9_wouldTake rfl (hx t (by omega)).2 ?_
    refine mi_blk okX9_wouldTake 2 (pc' := 85) (lv' := [(3, .double (FP.dadd (FP.dadd ((tv FP.dconst0 0 k t).1) (dr_sk (tv FP.dconst0 0 k t).2 (k + t))) (sp_step (k + t)))), (6, .int (nI (k + t))), (5, .int (nI (tv FP.dconst0 0 k t).2)), (0, .ref M), (1, .int (nI k)), (2, .int y)]) (st' := [.int (nI (k + t))]) rfl ?_
    refine mi_callS okX9_wouldTake (mc := 0) (ms := 0) (mc' := 0) (ms' := 0) (As := [.int (nI (k + t))]) (st := []) rfl cs_RX9_211 rfl (by decide) (Nat.le_of_ble_eq_true rfl) (m_behind (show k + t < 240 by omega)) (fun r h1 q => ?_)
    obtain ⟨rfl, e9⟩ := q; have e9 := e9.symm; subst e9
    change mi_WX _ pP X kX9_wouldTake 2 0 0 88 [(3, .double (FP.dadd (FP.dadd ((tv FP.dconst0 0 k t).1) (dr_sk (tv FP.dconst0 0 k t).2 (k + t))) (sp_step (k + t)))), (6, .int (nI (k + t))), (5, .int (nI (tv FP.dconst0 0 k t).2)), (0, .ref M), (1, .int (nI k)), (2, .int y)] [.int (nI (hd_b (k + t)))] h _
    refine mi_blk okX9_wouldTake 3 (pc' := 51) (lv' := [(6, .int ((nI (k + t)) + 1)), (5, .int (nI (hd_b (k + t)))), (3, .double (FP.dadd (FP.dadd ((tv FP.dconst0 0 k t).1) (dr_sk (tv FP.dconst0 0 k t).2 (k + t))) (sp_step (k + t)))), (0, .ref M), (1, .int (nI k)), (2, .int y)]) (st' := []) rfl ?_
    rw [← nI_succ, show k + t + 1 = k + (t + 1) by omega]
    refine mi_WX.locs (lv' := [(6, .int (nI (k + (t + 1)))), (5, .int (nI (tv FP.dconst0 0 k (t + 1)).2)), (3, .double ((tv FP.dconst0 0 k (t + 1)).1)), (0, .ref M), (1, .int (nI k)), (2, .int y)]) (by simp [tv, dr_cb]) ?_
    exact ih (t + 1) (by omega)
set_option maxHeartbeats 4000000 in
set_option maxRecDepth 100000 in
theorem m_wouldTake {X : mi_X} {h : mi_H} {M : Nat} (hw : mo_W M h) (hc : h.2 M = mo_c M 0 mo_0) {k : Nat} (hk : k < 240) {m : Nat} (hkm : k + m ≤ 240) {y : Int32} (hm : (if nI k + y < (240 : Int32) then nI k + y else (240 : Int32)) = nI (k + m)) (hx : ∀ i, i < m → dr_okc (tv FP.dconst0 0 k i).1 (tv FP.dconst0 0 k i).2 (k + i)) (hs : vf_n64 (FP.dsub (tv FP.dconst0 0 k m).1 FP.dconst0)) (h1 : ¬ y < 1) (h2 : ¬ 40 < y) : mi_S pP X kX9_wouldTake 2 [.ref M, .int (nI k), .int y] h 0 0 (fun r h1 => r = some (.double (FP.dsub (tv FP.dconst0 0 k m).1 FP.dconst0)) ∧ mp M h 0 h1) := by
  refine enX9_wouldTake (Nat.le_of_ble_eq_true rfl) ?_
  refine mi_blk okX9_wouldTake 2 (pc' := 2) (lv' := [(0, .ref M), (1, .int (nI k)), (2, .int y)]) (st' := [.int (nI k), .ref M]) rfl ?_
  refine mi_callS okX9_wouldTake (mc := 0) (ms := 0) (mc' := 0) (ms' := 0) (As := [.int (nI k)]) (st := [.ref M]) rfl cs_RX9_166 rfl (by decide) (Nat.le_of_ble_eq_true rfl) (m_isNoSector_0 hk) (fun r h1 q => ?_)
  obtain ⟨rfl, e9⟩ := q; have e9 := e9.symm; subst e9
  change mi_WX _ pP X kX9_wouldTake 2 0 0 5 [(0, .ref M), (1, .int (nI k)), (2, .int y)] [.int 0, .ref M] h _
  refine mi_blk okX9_wouldTake 1 (pc' := 6) (lv' := [(0, .ref M), (1, .int (nI k)), (2, .int y)]) (st' := [.int 1, .int 0, .ref M]) rfl ?_
  refine mi_callV okX9_wouldTake (mc := 0) (ms := 0) (mc' := 0) (ms' := 0) (b := M) (As := [.int 0, .int 1]) (st := []) rfl cv_RX9_130 rfl (by decide) (show 6 ≤ _ by have := hw.1; omega) (show _ < h.1 by have := hw.1; omega) hc rfl (Nat.le_of_ble_eq_true rfl) (m_start_0 (h := h) (u := (0, 0, 0, 4, 0, 0, 0, 0, 0)) (show 6 ≤ _ by have := hw.1; omega) (show _ < h.1 by have := hw.1; omega) hc) (fun r h1 q => ?_)
  obtain ⟨rfl, e9⟩ := q; subst e9
  change mi_WX _ pP X kX9_wouldTake 2 0 0 9 [(0, .ref M), (1, .int (nI k)), (2, .int y)] [.int 0] (mi_set h M (.inr (9, [.int 0, .ref (M + 1), .ref (M + 2), .ref (M + 3), .ref (M + 4), .int 0, .int 0, .int 0, .int 4, .ref (M + 5), .int 0, .double 0, .int 0, .int 0, .int 0]))) _
  refine mi_if_ne okX9_wouldTake rfl rfl (fun c_9 => absurd (by decide) c_9) (fun c_9 => ?_)
  refine mi_blk okX9_wouldTake 4 (pc' := 17) (lv' := [(0, .ref M), (1, .int (nI k)), (2, .int y)]) (st' := [.int 40, .int 1, .int y, .ref M]) rfl ?_
  refine mi_callS okX9_wouldTake (mc := 0) (ms := 0) (mc' := 0) (ms' := 0) (As := [.int y, .int 1, .int 40]) (st := [.ref M]) rfl cs_RX9_46 rfl (by decide) (Nat.le_of_ble_eq_true rfl) (m_isIn_1 h1 h2) (fun r h1 q => ?_)
  obtain ⟨rfl, e9⟩ := q; have e9 := e9.symm; subst e9
  change mi_WX _ pP X kX9_wouldTake 2 0 0 20 [(0, .ref M), (1, .int (nI k)), (2, .int y)] [.int 1, .ref M] (mi_set h M (.inr (9, [.int 0, .ref (M + 1), .ref (M + 2), .ref (M + 3), .ref (M + 4), .int 0, .int 0, .int 0, .int 4, .ref (M + 5), .int 0, .double 0, .int 0, .int 0, .int 0]))) _
  refine mi_if_ne okX9_wouldTake rfl rfl (fun c_20 => ?_) (fun c_20 => absurd c_20 (by decide))
  refine mi_blk okX9_wouldTake 2 (pc' := 29) (lv' := [(0, .ref M), (1, .int (nI k)), (2, .int y)]) (st' := [.int 2, .int 0, .ref M]) rfl ?_
  refine mi_callV okX9_wouldTake (mc := 0) (ms := 0) (mc' := 0) (ms' := 0) (b := M) (As := [.int 0, .int 2]) (st := []) rfl cv_RX9_38 rfl (by decide) (show 6 ≤ _ by have := hw.1; omega) (show _ < h.1 by have := hw.1; omega) mi_set_self rfl (Nat.le_of_ble_eq_true rfl) (m_refuse_0 (h := (mi_set h M (.inr (9, [.int 0, .ref (M + 1), .ref (M + 2), .ref (M + 3), .ref (M + 4), .int 0, .int 0, .int 0, .int 4, .ref (M + 5), .int 0, .double 0, .int 0, .int 0, .int 0])))) (u := (0, 0, 0, 4, 0, 0, 0, 0, 0)) (show 6 ≤ _ by have := hw.1; omega) (show _ < h.1 by have := hw.1; omega) mi_set_self) (fun r h1 q => ?_)
  obtain ⟨rfl, e9⟩ := q; have e9 := e9.symm; subst e9
  change mi_WX _ pP X kX9_wouldTake 2 0 0 32 [(0, .ref M), (1, .int (nI k)), (2, .int y)] [.int 0] (mi_set h M (.inr (9, [.int 0, .ref (M + 1), .ref (M + 2), .ref (M + 3), .ref (M + 4), .int 0, .int 0, .int 0, .int 4, .ref (M + 5), .int 0, .double 0, .int 0, .int 0, .int 0]))) _
  refine mi_if_eq okX9_wouldTake rfl rfl (fun c_32 => ?_) (fun c_32 => absurd (by decide) c_32)
  refine mi_blk okX9_wouldTake 1 (pc' := 38) (lv' := [(0, .ref M), (1, .int (nI k)), (2, .int y)]) (st' := [.ref M]) rfl ?_
  refine mi_getf okX9_wouldTake rfl fg_RX9_197 (show 6 ≤ _ by have := hw.1; omega) (show _ < h.1 by have := hw.1; omega) mi_set_self (v := .double 0) rfl ?_
  refine mi_blk okX9_wouldTake 2 (pc' := 43) (lv' := [(3, .double 0), (0, .ref M), (1, .int (nI k)), (2, .int y)]) (st' := [.ref M]) rfl ?_
  refine mi_getf okX9_wouldTake rfl fg_RX9_201 (show 6 ≤ _ by have := hw.1; omega) (show _ < h.1 by have := hw.1; omega) mi_set_self (v := .int 0) rfl ?_
  refine mi_blk okX9_wouldTake 3 (pc' := 51) (lv' := [(6, .int (nI k)), (5, .int 0), (3, .double 0), (0, .ref M), (1, .int (nI k)), (2, .int y)]) (st' := []) rfl ?_
  change mi_WX _ pP X kX9_wouldTake 2 0 0 51 [(6, .int (nI k)), (5, .int (nI 0)), (3, .double FP.dconst0), (0, .ref M), (1, .int (nI k)), (2, .int y)] [] (mi_set h M (.inr (9, [.int 0, .ref (M + 1), .ref (M + 2), .ref (M + 3), .ref (M + 4), .int 0, .int 0, .int 0, .int 4, .ref (M + 5), .int 0, .double 0, .int 0, .int 0, .int 0]))) _
  refine mi_WX.locs (lv' := [(6, .int (nI k)), (5, .int (nI 0)), (3, .double FP.dconst0), (0, .ref M), (1, .int (nI k)), (2, .int y)]) (by simp) ?_
  exact lm_wt (h := (mi_set h M (.inr (9, [.int 0, .ref (M + 1), .ref (M + 2), .ref (M + 3), .ref (M + 4), .int 0, .int 0, .int 0, .int 4, .ref (M + 5), .int 0, .double 0, .int 0, .int 0, .int 0])))) (hw.set _) mi_set_self hk hkm hm hx hs ⟨rfl, mp.set mo_0⟩ m 0 (by omega)
set_option maxHeartbeats 4000000 in
set_option maxRecDepth 100000 in
theorem m_add {X : mi_X} {h : mi_H} {a b v : Int64} (hv : a * 31 + b = v) : mi_S pP X kX9_add 0 [.long a, .long b] h 0 0 (fun r h1 => r = some (.long v) ∧ h1 = h) := by
  refine enX9_add (Nat.le_of_ble_eq_true rfl) ?_
  refine mi_blk okX9_add 1 (pc' := 1) (lv' := [(0, .long a), (2, .long b)]) (st' := [.long a]) rfl ?_
  refine mi_ldc2 okX9_add (v := (31 : Int64)) rfl kc_RX9_257 ?_
  refine mi_blk okX9_add 3 (pc' := 7) (lv' := [(0, .long a), (2, .long b)]) (st' := [.long ((a * (31 : Int64)) + b)]) rfl ?_
  exact mi_ret_l okX9_add rfl rfl ⟨by rw [hv], rfl⟩
set_option maxHeartbeats 4000000 in
set_option maxRecDepth 100000 in
theorem lm_dig {X : mi_X} {h : mi_H} {M : Nat} (hw : mo_W M h) {th : Int32} (hc : h.2 M = mo_c M th mo_0) {d : Int64} {Q : Option Value → mi_H → Prop} (kk : mi_W pP X kX9_digest 4 0 0 149 [(3, .int (nI 240)), (1, .long d), (0, .ref M)] [] h Q) : ∀ (m t : Nat), t + m = 240 → mi_W pP X kX9_digest 4 0 0 84 [(3, .int (nI t)), (1, .long d), (0, .ref M)] [] h Q := by
  intro m
  induction m with
  | zero =>
    intro t ht
    obtain rfl : t = 240 := by omega
    refine mi_blk okX9_digest 2 (pc' := 88) (lv' := [(3, .int (nI 240)), (1, .long d), (0, .ref M)]) (st' := [.int 240, .int (nI 240)]) rfl ?_
    refine mi_ic_ge okX9_digest rfl rfl (fun c_88 => ?_) (fun c_88 => absurd (by decide) c_88)
    exact kk
  | succ m ih =>
    intro t ht
    refine mi_blk okX9_digest 2 (pc' := 88) (lv' := [(3, .int (nI t)), (1, .long d), (0, .ref M)]) (st' := [.int 240, .int (nI t)]) rfl ?_
    refine mi_ic_ge okX9_digest rfl rfl (fun c_88 => absurd c_88 (nI_ge (a := t) (b := 240) (by omega) (by decide))) (fun c_88 => ?_)
    refine mi_blk okX9_digest 1 (pc' := 92) (lv' := [(3, .int (nI t)), (1, .long d), (0, .ref M)]) (st' := [.ref M]) rfl ?_
    refine mi_getf okX9_digest rfl fg_RX9_11 (show 6 ≤ _ by have := hw.1; omega) (show _ < h.1 by have := hw.1; omega) hc (v := .ref (M + 1)) rfl ?_
    refine mi_blk okX9_digest 1 (pc' := 96) (lv' := [(3, .int (nI t)), (1, .long d), (0, .ref M)]) (st' := [.int (nI t), .ref (M + 1)]) rfl ?_
    refine mo_aab okX9_digest (k := t) rfl hw (by omega) ?_
    refine mi_ifnonnull_n okX9_digest rfl ?_
    refine mi_blk okX9_digest 3 (pc' := 84) (lv' := [(3, .int ((nI t) + 1)), (1, .long d), (0, .ref M)]) (st' := []) rfl ?_
    rw [← nI_succ]
    exact ih (t + 1) (by omega)
set_option maxHeartbeats 4000000 in
set_option maxRecDepth 100000 in
theorem m_digest {X : mi_X} {h : mi_H} {M : Nat} (hw : mo_W M h) (hc : h.2 M = mo_c M 0 mo_0) : mi_S pP X kX9_digest 4 [.ref M] h 26 208 (fun r h1 => r = some (.long (-8771326024716431228)) ∧ mp M h 0 h1) := by
  refine enX9_digest (Nat.le_of_ble_eq_true rfl) ?_
  refine mi_blk okX9_digest 2 (pc' := 2) (lv' := [(0, .ref M)]) (st' := [.int 0, .ref M]) rfl ?_
  refine mi_putf' okX9_digest rfl fd_RX9_35 (show 6 ≤ _ by have := hw.1; omega) (show _ < h.1 by have := hw.1; omega) hc (fs' := [.int 0, .ref (M + 1), .ref (M + 2), .ref (M + 3), .ref (M + 4), .int 0, .int 0, .int 0, .int 4, .ref (M + 5), .int 0, .double 0, .int 0, .int 0, .int 0]) rfl (Nat.le_of_ble_eq_true rfl) rfl rfl ?_
  refine mi_ldc2 okX9_digest (v := (9600 : Int64)) rfl kc_RX9_259 ?_
  refine mi_blk okX9_digest 5 (pc' := 14) (lv' := [(3, .int 0), (1, .long (9600 : Int64)), (0, .ref M)]) (st' := [.int 13, .int 0]) rfl ?_
  refine mi_ic_ge okX9_digest rfl rfl (fun c_14 => absurd c_14 (by decide)) (fun c_14 => ?_)
  refine mi_blk okX9_digest 3 (pc' := 20) (lv' := [(3, .int 0), (1, .long (9600 : Int64)), (0, .ref M)]) (st' := [.int 0, .ref M, .long (9600 : Int64)]) rfl ?_
  refine mi_callV okX9_digest (mc := 24) (ms := 192) (mc' := 2) (ms' := 16) (b := M) (As := [.int 0]) (st := [.long (9600 : Int64)]) rfl cv_RX9_253 rfl (by decide) (show 6 ≤ _ by have := hw.1; omega) (show _ < h.1 by have := hw.1; omega) mi_set_self rfl (Nat.le_of_ble_eq_true rfl) (m_told_0 (h := (mi_set h M (.inr (9, [.int 0, .ref (M + 1), .ref (M + 2), .ref (M + 3), .ref (M + 4), .int 0, .int 0, .int 0, .int 4, .ref (M + 5), .int 0, .double 0, .int 0, .int 0, .int 0])))) (hw.set _) mi_set_self) (fun r g0 q => ?_)
  obtain ⟨rfl, t0⟩ := q; have w0 := mo_W.tp (hw.set _) t0; have c0 := (t0.2 M (mo_W.lt (hw.set _))).trans mi_set_self; have u0 := t0
  change mi_WX _ pP X kX9_digest 4 24 192 23 [(3, .int 0), (1, .long (9600 : Int64)), (0, .ref M)] [.int 0, .long (9600 : Int64)] g0 _
  refine mi_blk okX9_digest 1 (pc' := 24) (lv' := [(3, .int 0), (1, .long (9600 : Int64)), (0, .ref M)]) (st' := [.long ((0 : Int32).toInt64), .long (9600 : Int64)]) rfl ?_
  refine mi_callS okX9_digest (mc := 24) (ms := 192) (mc' := 0) (ms' := 0) (As := [.long (9600 : Int64), .long ((0 : Int32).toInt64)]) (st := []) rfl cs_RX9_261 rfl (by decide) (Nat.le_of_ble_eq_true rfl) (m_add (v := 297600) (by decide +kernel)) (fun r h1 q => ?_)
  obtain ⟨rfl, e9⟩ := q; have e9 := e9.symm; subst e9
  change mi_WX _ pP X kX9_digest 4 24 192 27 [(3, .int 0), (1, .long (9600 : Int64)), (0, .ref M)] [.long 297600] g0 _
  refine mi_blk okX9_digest 5 (pc' := 14) (lv' := [(3, .int 1), (1, .long 297600), (0, .ref M)]) (st' := [.int 13, .int 1]) rfl ?_
  refine mi_ic_ge okX9_digest rfl rfl (fun c_14 => absurd c_14 (by decide)) (fun c_14 => ?_)
  refine mi_blk okX9_digest 3 (pc' := 20) (lv' := [(3, .int 1), (1, .long 297600), (0, .ref M)]) (st' := [.int 1, .ref M, .long 297600]) rfl ?_
  refine mi_callV okX9_digest (mc := 22) (ms := 176) (mc' := 2) (ms' := 16) (b := M) (As := [.int 1]) (st := [.long 297600]) rfl cv_RX9_253 rfl (by decide) (show 6 ≤ _ by have := hw.1; omega) (mo_W.lt w0) c0 rfl (Nat.le_of_ble_eq_true rfl) (m_told_1 (h := g0) w0 c0) (fun r g1 q => ?_)
  obtain ⟨rfl, t1⟩ := q; have w1 := mo_W.tp w0 t1; have c1 := (t1.2 M (mo_W.lt w0)).trans c0; have u1 := u0.tr t1
  change mi_WX _ pP X kX9_digest 4 22 176 23 [(3, .int 1), (1, .long 297600), (0, .ref M)] [.int 0, .long 297600] g1 _
  refine mi_blk okX9_digest 1 (pc' := 24) (lv' := [(3, .int 1), (1, .long 297600), (0, .ref M)]) (st' := [.long ((0 : Int32).toInt64), .long 297600]) rfl ?_
  refine mi_callS okX9_digest (mc := 22) (ms := 176) (mc' := 0) (ms' := 0) (As := [.long 297600, .long ((0 : Int32).toInt64)]) (st := []) rfl cs_RX9_261 rfl (by decide) (Nat.le_of_ble_eq_true rfl) (m_add (v := 9225600) (by decide +kernel)) (fun r h1 q => ?_)
  obtain ⟨rfl, e9⟩ := q; have e9 := e9.symm; subst e9
  change mi_WX _ pP X kX9_digest 4 22 176 27 [(3, .int 1), (1, .long 297600), (0, .ref M)] [.long 9225600] g1 _
  refine mi_blk okX9_digest 5 (pc' := 14) (lv' := [(3, .int 2), (1, .long 9225600), (0, .ref M)]) (st' := [.int 13, .int 2]) rfl ?_
  refine mi_ic_ge okX9_digest rfl rfl (fun c_14 => absurd c_14 (by decide)) (fun c_14 => ?_)
  refine mi_blk okX9_digest 3 (pc' := 20) (lv' := [(3, .int 2), (1, .long 9225600), (0, .ref M)]) (st' := [.int 2, .ref M, .long 9225600]) rfl ?_
  refine mi_callV okX9_digest (mc := 20) (ms := 160) (mc' := 2) (ms' := 16) (b := M) (As := [.int 2]) (st := [.long 9225600]) rfl cv_RX9_253 rfl (by decide) (show 6 ≤ _ by have := hw.1; omega) (mo_W.lt w1) c1 rfl (Nat.le_of_ble_eq_true rfl) (m_told_2 (h := g1) w1 c1) (fun r g2 q => ?_)
  obtain ⟨rfl, t2⟩ := q; have w2 := mo_W.tp w1 t2; have c2 := (t2.2 M (mo_W.lt w1)).trans c1; have u2 := u1.tr t2
  change mi_WX _ pP X kX9_digest 4 20 160 23 [(3, .int 2), (1, .long 9225600), (0, .ref M)] [.int 0, .long 9225600] g2 _
  refine mi_blk okX9_digest 1 (pc' := 24) (lv' := [(3, .int 2), (1, .long 9225600), (0, .ref M)]) (st' := [.long ((0 : Int32).toInt64), .long 9225600]) rfl ?_
  refine mi_callS okX9_digest (mc := 20) (ms := 160) (mc' := 0) (ms' := 0) (As := [.long 9225600, .long ((0 : Int32).toInt64)]) (st := []) rfl cs_RX9_261 rfl (by decide) (Nat.le_of_ble_eq_true rfl) (m_add (v := 285993600) (by decide +kernel)) (fun r h1 q => ?_)
  obtain ⟨rfl, e9⟩ := q; have e9 := e9.symm; subst e9
  change mi_WX _ pP X kX9_digest 4 20 160 27 [(3, .int 2), (1, .long 9225600), (0, .ref M)] [.long 285993600] g2 _
  refine mi_blk okX9_digest 5 (pc' := 14) (lv' := [(3, .int 3), (1, .long 285993600), (0, .ref M)]) (st' := [.int 13, .int 3]) rfl ?_
  refine mi_ic_ge okX9_digest rfl rfl (fun c_14 => absurd c_14 (by decide)) (fun c_14 => ?_)
  refine mi_blk okX9_digest 3 (pc' := 20) (lv' := [(3, .int 3), (1, .long 285993600), (0, .ref M)]) (st' := [.int 3, .ref M, .long 285993600]) rfl ?_
  refine mi_callV okX9_digest (mc := 18) (ms := 144) (mc' := 2) (ms' := 16) (b := M) (As := [.int 3]) (st := [.long 285993600]) rfl cv_RX9_253 rfl (by decide) (show 6 ≤ _ by have := hw.1; omega) (mo_W.lt w2) c2 rfl (Nat.le_of_ble_eq_true rfl) (m_told_3 (h := g2) w2 c2) (fun r g3 q => ?_)
  obtain ⟨rfl, t3⟩ := q; have w3 := mo_W.tp w2 t3; have c3 := (t3.2 M (mo_W.lt w2)).trans c2; have u3 := u2.tr t3
  change mi_WX _ pP X kX9_digest 4 18 144 23 [(3, .int 3), (1, .long 285993600), (0, .ref M)] [.int 4, .long 285993600] g3 _
  refine mi_blk okX9_digest 1 (pc' := 24) (lv' := [(3, .int 3), (1, .long 285993600), (0, .ref M)]) (st' := [.long ((4 : Int32).toInt64), .long 285993600]) rfl ?_
  refine mi_callS okX9_digest (mc := 18) (ms := 144) (mc' := 0) (ms' := 0) (As := [.long 285993600, .long ((4 : Int32).toInt64)]) (st := []) rfl cs_RX9_261 rfl (by decide) (Nat.le_of_ble_eq_true rfl) (m_add (v := 8865801604) (by decide +kernel)) (fun r h1 q => ?_)
  obtain ⟨rfl, e9⟩ := q; have e9 := e9.symm; subst e9
  change mi_WX _ pP X kX9_digest 4 18 144 27 [(3, .int 3), (1, .long 285993600), (0, .ref M)] [.long 8865801604] g3 _
  refine mi_blk okX9_digest 5 (pc' := 14) (lv' := [(3, .int 4), (1, .long 8865801604), (0, .ref M)]) (st' := [.int 13, .int 4]) rfl ?_
  refine mi_ic_ge okX9_digest rfl rfl (fun c_14 => absurd c_14 (by decide)) (fun c_14 => ?_)
  refine mi_blk okX9_digest 3 (pc' := 20) (lv' := [(3, .int 4), (1, .long 8865801604), (0, .ref M)]) (st' := [.int 4, .ref M, .long 8865801604]) rfl ?_
  refine mi_callV okX9_digest (mc := 16) (ms := 128) (mc' := 2) (ms' := 16) (b := M) (As := [.int 4]) (st := [.long 8865801604]) rfl cv_RX9_253 rfl (by decide) (show 6 ≤ _ by have := hw.1; omega) (mo_W.lt w3) c3 rfl (Nat.le_of_ble_eq_true rfl) (m_told_4 (h := g3) w3 c3) (fun r g4 q => ?_)
  obtain ⟨rfl, t4⟩ := q; have w4 := mo_W.tp w3 t4; have c4 := (t4.2 M (mo_W.lt w3)).trans c3; have u4 := u3.tr t4
  change mi_WX _ pP X kX9_digest 4 16 128 23 [(3, .int 4), (1, .long 8865801604), (0, .ref M)] [.int 0, .long 8865801604] g4 _
  refine mi_blk okX9_digest 1 (pc' := 24) (lv' := [(3, .int 4), (1, .long 8865801604), (0, .ref M)]) (st' := [.long ((0 : Int32).toInt64), .long 8865801604]) rfl ?_
  refine mi_callS okX9_digest (mc := 16) (ms := 128) (mc' := 0) (ms' := 0) (As := [.long 8865801604, .long ((0 : Int32).toInt64)]) (st := []) rfl cs_RX9_261 rfl (by decide) (Nat.le_of_ble_eq_true rfl) (m_add (v := 274839849724) (by decide +kernel)) (fun r h1 q => ?_)
  obtain ⟨rfl, e9⟩ := q; have e9 := e9.symm; subst e9
  change mi_WX _ pP X kX9_digest 4 16 128 27 [(3, .int 4), (1, .long 8865801604), (0, .ref M)] [.long 274839849724] g4 _
  refine mi_blk okX9_digest 5 (pc' := 14) (lv' := [(3, .int 5), (1, .long 274839849724), (0, .ref M)]) (st' := [.int 13, .int 5]) rfl ?_
  refine mi_ic_ge okX9_digest rfl rfl (fun c_14 => absurd c_14 (by decide)) (fun c_14 => ?_)
  refine mi_blk okX9_digest 3 (pc' := 20) (lv' := [(3, .int 5), (1, .long 274839849724), (0, .ref M)]) (st' := [.int 5, .ref M, .long 274839849724]) rfl ?_
  refine mi_callV okX9_digest (mc := 14) (ms := 112) (mc' := 2) (ms' := 16) (b := M) (As := [.int 5]) (st := [.long 274839849724]) rfl cv_RX9_253 rfl (by decide) (show 6 ≤ _ by have := hw.1; omega) (mo_W.lt w4) c4 rfl (Nat.le_of_ble_eq_true rfl) (m_told_5 (h := g4) w4 c4) (fun r g5 q => ?_)
  obtain ⟨rfl, t5⟩ := q; have w5 := mo_W.tp w4 t5; have c5 := (t5.2 M (mo_W.lt w4)).trans c4; have u5 := u4.tr t5
  change mi_WX _ pP X kX9_digest 4 14 112 23 [(3, .int 5), (1, .long 274839849724), (0, .ref M)] [.int 0, .long 274839849724] g5 _
  refine mi_blk okX9_digest 1 (pc' := 24) (lv' := [(3, .int 5), (1, .long 274839849724), (0, .ref M)]) (st' := [.long ((0 : Int32).toInt64), .long 274839849724]) rfl ?_
  refine mi_callS okX9_digest (mc := 14) (ms := 112) (mc' := 0) (ms' := 0) (As := [.long 274839849724, .long ((0 : Int32).toInt64)]) (st := []) rfl cs_RX9_261 rfl (by decide) (Nat.le_of_ble_eq_true rfl) (m_add (v := 8520035341444) (by decide +kernel)) (fun r h1 q => ?_)
  obtain ⟨rfl, e9⟩ := q; have e9 := e9.symm; subst e9
  change mi_WX _ pP X kX9_digest 4 14 112 27 [(3, .int 5), (1, .long 274839849724), (0, .ref M)] [.long 8520035341444] g5 _
  refine mi_blk okX9_digest 5 (pc' := 14) (lv' := [(3, .int 6), (1, .long 8520035341444), (0, .ref M)]) (st' := [.int 13, .int 6]) rfl ?_
  refine mi_ic_ge okX9_digest rfl rfl (fun c_14 => absurd c_14 (by decide)) (fun c_14 => ?_)
  refine mi_blk okX9_digest 3 (pc' := 20) (lv' := [(3, .int 6), (1, .long 8520035341444), (0, .ref M)]) (st' := [.int 6, .ref M, .long 8520035341444]) rfl ?_
  refine mi_callV okX9_digest (mc := 12) (ms := 96) (mc' := 2) (ms' := 16) (b := M) (As := [.int 6]) (st := [.long 8520035341444]) rfl cv_RX9_253 rfl (by decide) (show 6 ≤ _ by have := hw.1; omega) (mo_W.lt w5) c5 rfl (Nat.le_of_ble_eq_true rfl) (m_told_6 (h := g5) w5 c5) (fun r g6 q => ?_)
  obtain ⟨rfl, t6⟩ := q; have w6 := mo_W.tp w5 t6; have c6 := (t6.2 M (mo_W.lt w5)).trans c5; have u6 := u5.tr t6
  change mi_WX _ pP X kX9_digest 4 12 96 23 [(3, .int 6), (1, .long 8520035341444), (0, .ref M)] [.int 0, .long 8520035341444] g6 _
  refine mi_blk okX9_digest 1 (pc' := 24) (lv' := [(3, .int 6), (1, .long 8520035341444), (0, .ref M)]) (st' := [.long ((0 : Int32).toInt64), .long 8520035341444]) rfl ?_
  refine mi_callS okX9_digest (mc := 12) (ms := 96) (mc' := 0) (ms' := 0) (As := [.long 8520035341444, .long ((0 : Int32).toInt64)]) (st := []) rfl cs_RX9_261 rfl (by decide) (Nat.le_of_ble_eq_true rfl) (m_add (v := 264121095584764) (by decide +kernel)) (fun r h1 q => ?_)
  obtain ⟨rfl, e9⟩ := q; have e9 := e9.symm; subst e9
  change mi_WX _ pP X kX9_digest 4 12 96 27 [(3, .int 6), (1, .long 8520035341444), (0, .ref M)] [.long 264121095584764] g6 _
  refine mi_blk okX9_digest 5 (pc' := 14) (lv' := [(3, .int 7), (1, .long 264121095584764), (0, .ref M)]) (st' := [.int 13, .int 7]) rfl ?_
  refine mi_ic_ge okX9_digest rfl rfl (fun c_14 => absurd c_14 (by decide)) (fun c_14 => ?_)
  refine mi_blk okX9_digest 3 (pc' := 20) (lv' := [(3, .int 7), (1, .long 264121095584764), (0, .ref M)]) (st' := [.int 7, .ref M, .long 264121095584764]) rfl ?_
  refine mi_callV okX9_digest (mc := 10) (ms := 80) (mc' := 2) (ms' := 16) (b := M) (As := [.int 7]) (st := [.long 264121095584764]) rfl cv_RX9_253 rfl (by decide) (show 6 ≤ _ by have := hw.1; omega) (mo_W.lt w6) c6 rfl (Nat.le_of_ble_eq_true rfl) (m_told_7 (h := g6) w6 c6) (fun r g7 q => ?_)
  obtain ⟨rfl, t7⟩ := q; have w7 := mo_W.tp w6 t7; have c7 := (t7.2 M (mo_W.lt w6)).trans c6; have u7 := u6.tr t7
  change mi_WX _ pP X kX9_digest 4 10 80 23 [(3, .int 7), (1, .long 264121095584764), (0, .ref M)] [.int 0, .long 264121095584764] g7 _
  refine mi_blk okX9_digest 1 (pc' := 24) (lv' := [(3, .int 7), (1, .long 264121095584764), (0, .ref M)]) (st' := [.long ((0 : Int32).toInt64), .long 264121095584764]) rfl ?_
  refine mi_callS okX9_digest (mc := 10) (ms := 80) (mc' := 0) (ms' := 0) (As := [.long 264121095584764, .long ((0 : Int32).toInt64)]) (st := []) rfl cs_RX9_261 rfl (by decide) (Nat.le_of_ble_eq_true rfl) (m_add (v := 8187753963127684) (by decide +kernel)) (fun r h1 q => ?_)
  obtain ⟨rfl, e9⟩ := q; have e9 := e9.symm; subst e9
  change mi_WX _ pP X kX9_digest 4 10 80 27 [(3, .int 7), (1, .long 264121095584764), (0, .ref M)] [.long 8187753963127684] g7 _
  refine mi_blk okX9_digest 5 (pc' := 14) (lv' := [(3, .int 8), (1, .long 8187753963127684), (0, .ref M)]) (st' := [.int 13, .int 8]) rfl ?_
  refine mi_ic_ge okX9_digest rfl rfl (fun c_14 => absurd c_14 (by decide)) (fun c_14 => ?_)
  refine mi_blk okX9_digest 3 (pc' := 20) (lv' := [(3, .int 8), (1, .long 8187753963127684), (0, .ref M)]) (st' := [.int 8, .ref M, .long 8187753963127684]) rfl ?_
  refine mi_callV okX9_digest (mc := 8) (ms := 64) (mc' := 2) (ms' := 16) (b := M) (As := [.int 8]) (st := [.long 8187753963127684]) rfl cv_RX9_253 rfl (by decide) (show 6 ≤ _ by have := hw.1; omega) (mo_W.lt w7) c7 rfl (Nat.le_of_ble_eq_true rfl) (m_told_8 (h := g7) w7 c7) (fun r g8 q => ?_)
  obtain ⟨rfl, t8⟩ := q; have w8 := mo_W.tp w7 t8; have c8 := (t8.2 M (mo_W.lt w7)).trans c7; have u8 := u7.tr t8
  change mi_WX _ pP X kX9_digest 4 8 64 23 [(3, .int 8), (1, .long 8187753963127684), (0, .ref M)] [.int 0, .long 8187753963127684] g8 _
  refine mi_blk okX9_digest 1 (pc' := 24) (lv' := [(3, .int 8), (1, .long 8187753963127684), (0, .ref M)]) (st' := [.long ((0 : Int32).toInt64), .long 8187753963127684]) rfl ?_
  refine mi_callS okX9_digest (mc := 8) (ms := 64) (mc' := 0) (ms' := 0) (As := [.long 8187753963127684, .long ((0 : Int32).toInt64)]) (st := []) rfl cs_RX9_261 rfl (by decide) (Nat.le_of_ble_eq_true rfl) (m_add (v := 253820372856958204) (by decide +kernel)) (fun r h1 q => ?_)
  obtain ⟨rfl, e9⟩ := q; have e9 := e9.symm; subst e9
  change mi_WX _ pP X kX9_digest 4 8 64 27 [(3, .int 8), (1, .long 8187753963127684), (0, .ref M)] [.long 253820372856958204] g8 _
  refine mi_blk okX9_digest 5 (pc' := 14) (lv' := [(3, .int 9), (1, .long 253820372856958204), (0, .ref M)]) (st' := [.int 13, .int 9]) rfl ?_
  refine mi_ic_ge okX9_digest rfl rfl (fun c_14 => absurd c_14 (by decide)) (fun c_14 => ?_)
  refine mi_blk okX9_digest 3 (pc' := 20) (lv' := [(3, .int 9), (1, .long 253820372856958204), (0, .ref M)]) (st' := [.int 9, .ref M, .long 253820372856958204]) rfl ?_
  refine mi_callV okX9_digest (mc := 6) (ms := 48) (mc' := 2) (ms' := 16) (b := M) (As := [.int 9]) (st := [.long 253820372856958204]) rfl cv_RX9_253 rfl (by decide) (show 6 ≤ _ by have := hw.1; omega) (mo_W.lt w8) c8 rfl (Nat.le_of_ble_eq_true rfl) (m_told_9 (h := g8) w8 c8) (fun r g9 q => ?_)
  obtain ⟨rfl, t9⟩ := q; have w9 := mo_W.tp w8 t9; have c9 := (t9.2 M (mo_W.lt w8)).trans c8; have u9 := u8.tr t9
  change mi_WX _ pP X kX9_digest 4 6 48 23 [(3, .int 9), (1, .long 253820372856958204), (0, .ref M)] [.int 0, .long 253820372856958204] g9 _
  refine mi_blk okX9_digest 1 (pc' := 24) (lv' := [(3, .int 9), (1, .long 253820372856958204), (0, .ref M)]) (st' := [.long ((0 : Int32).toInt64), .long 253820372856958204]) rfl ?_
  refine mi_callS okX9_digest (mc := 6) (ms := 48) (mc' := 0) (ms' := 0) (As := [.long 253820372856958204, .long ((0 : Int32).toInt64)]) (st := []) rfl cs_RX9_261 rfl (by decide) (Nat.le_of_ble_eq_true rfl) (m_add (v := 7868431558565704324) (by decide +kernel)) (fun r h1 q => ?_)
  obtain ⟨rfl, e9⟩ := q; have e9 := e9.symm; subst e9
  change mi_WX _ pP X kX9_digest 4 6 48 27 [(3, .int 9), (1, .long 253820372856958204), (0, .ref M)] [.long 7868431558565704324] g9 _
  refine mi_blk okX9_digest 5 (pc' := 14) (lv' := [(3, .int 10), (1, .long 7868431558565704324), (0, .ref M)]) (st' := [.int 13, .int 10]) rfl ?_
  refine mi_ic_ge okX9_digest rfl rfl (fun c_14 => absurd c_14 (by decide)) (fun c_14 => ?_)
  refine mi_blk okX9_digest 3 (pc' := 20) (lv' := [(3, .int 10), (1, .long 7868431558565704324), (0, .ref M)]) (st' := [.int 10, .ref M, .long 7868431558565704324]) rfl ?_
  refine mi_callV okX9_digest (mc := 4) (ms := 32) (mc' := 2) (ms' := 16) (b := M) (As := [.int 10]) (st := [.long 7868431558565704324]) rfl cv_RX9_253 rfl (by decide) (show 6 ≤ _ by have := hw.1; omega) (mo_W.lt w9) c9 rfl (Nat.le_of_ble_eq_true rfl) (m_told_10 (h := g9) w9 c9) (fun r g10 q => ?_)
  obtain ⟨rfl, t10⟩ := q; have w10 := mo_W.tp w9 t10; have c10 := (t10.2 M (mo_W.lt w9)).trans c9; have u10 := u9.tr t10
  change mi_WX _ pP X kX9_digest 4 4 32 23 [(3, .int 10), (1, .long 7868431558565704324), (0, .ref M)] [.int 0, .long 7868431558565704324] g10 _
  refine mi_blk okX9_digest 1 (pc' := 24) (lv' := [(3, .int 10), (1, .long 7868431558565704324), (0, .ref M)]) (st' := [.long ((0 : Int32).toInt64), .long 7868431558565704324]) rfl ?_
  refine mi_callS okX9_digest (mc := 4) (ms := 32) (mc' := 0) (ms' := 0) (As := [.long 7868431558565704324, .long ((0 : Int32).toInt64)]) (st := []) rfl cs_RX9_261 rfl (by decide) (Nat.le_of_ble_eq_true rfl) (m_add (v := 4113705357312663036) (by decide +kernel)) (fun r h1 q => ?_)
  obtain ⟨rfl, e9⟩ := q; have e9 := e9.symm; subst e9
  change mi_WX _ pP X kX9_digest 4 4 32 27 [(3, .int 10), (1, .long 7868431558565704324), (0, .ref M)] [.long 4113705357312663036] g10 _
  refine mi_blk okX9_digest 5 (pc' := 14) (lv' := [(3, .int 11), (1, .long 4113705357312663036), (0, .ref M)]) (st' := [.int 13, .int 11]) rfl ?_
  refine mi_ic_ge okX9_digest rfl rfl (fun c_14 => absurd c_14 (by decide)) (fun c_14 => ?_)
  refine mi_blk okX9_digest 3 (pc' := 20) (lv' := [(3, .int 11), (1, .long 4113705357312663036), (0, .ref M)]) (st' := [.int 11, .ref M, .long 4113705357312663036]) rfl ?_
  refine mi_callV okX9_digest (mc := 2) (ms := 16) (mc' := 2) (ms' := 16) (b := M) (As := [.int 11]) (st := [.long 4113705357312663036]) rfl cv_RX9_253 rfl (by decide) (show 6 ≤ _ by have := hw.1; omega) (mo_W.lt w10) c10 rfl (Nat.le_of_ble_eq_true rfl) (m_told_11 (h := g10) w10 c10) (fun r g11 q => ?_)
  obtain ⟨rfl, t11⟩ := q; have w11 := mo_W.tp w10 t11; have c11 := (t11.2 M (mo_W.lt w10)).trans c10; have u11 := u10.tr t11
  change mi_WX _ pP X kX9_digest 4 2 16 23 [(3, .int 11), (1, .long 4113705357312663036), (0, .ref M)] [.int 0, .long 4113705357312663036] g11 _
  refine mi_blk okX9_digest 1 (pc' := 24) (lv' := [(3, .int 11), (1, .long 4113705357312663036), (0, .ref M)]) (st' := [.long ((0 : Int32).toInt64), .long 4113705357312663036]) rfl ?_
  refine mi_callS okX9_digest (mc := 2) (ms := 16) (mc' := 0) (ms' := 0) (As := [.long 4113705357312663036, .long ((0 : Int32).toInt64)]) (st := []) rfl cs_RX9_261 rfl (by decide) (Nat.le_of_ble_eq_true rfl) (m_add (v := (-1602342439274307196)) (by decide +kernel)) (fun r h1 q => ?_)
  obtain ⟨rfl, e9⟩ := q; have e9 := e9.symm; subst e9
  change mi_WX _ pP X kX9_digest 4 2 16 27 [(3, .int 11), (1, .long 4113705357312663036), (0, .ref M)] [.long (-1602342439274307196)] g11 _
  refine mi_blk okX9_digest 5 (pc' := 14) (lv' := [(3, .int 12), (1, .long (-1602342439274307196)), (0, .ref M)]) (st' := [.int 13, .int 12]) rfl ?_
  refine mi_ic_ge okX9_digest rfl rfl (fun c_14 => absurd c_14 (by decide)) (fun c_14 => ?_)
  refine mi_blk okX9_digest 3 (pc' := 20) (lv' := [(3, .int 12), (1, .long (-1602342439274307196)), (0, .ref M)]) (st' := [.int 12, .ref M, .long (-1602342439274307196)]) rfl ?_
  refine mi_callV okX9_digest (mc := 0) (ms := 0) (mc' := 2) (ms' := 16) (b := M) (As := [.int 12]) (st := [.long (-1602342439274307196)]) rfl cv_RX9_253 rfl (by decide) (show 6 ≤ _ by have := hw.1; omega) (mo_W.lt w11) c11 rfl (Nat.le_of_ble_eq_true rfl) (m_told_12 (h := g11) w11 c11) (fun r g12 q => ?_)
  obtain ⟨rfl, t12⟩ := q; have w12 := mo_W.tp w11 t12; have c12 := (t12.2 M (mo_W.lt w11)).trans c11; have u12 := u11.tr t12
  change mi_WX _ pP X kX9_digest 4 0 0 23 [(3, .int 12), (1, .long (-1602342439274307196)), (0, .ref M)] [.int 0, .long (-1602342439274307196)] g12 _
  refine mi_blk okX9_digest 1 (pc' := 24) (lv' := [(3, .int 12), (1, .long (-1602342439274307196)), (0, .ref M)]) (st' := [.long ((0 : Int32).toInt64), .long (-1602342439274307196)]) rfl ?_
  refine mi_callS okX9_digest (mc := 0) (ms := 0) (mc' := 0) (ms' := 0) (As := [.long (-1602342439274307196), .long ((0 : Int32).toInt64)]) (st := []) rfl cs_RX9_261 rfl (by decide) (Nat.le_of_ble_eq_true rfl) (m_add (v := 5667616603625131772) (by decide +kernel)) (fun r h1 q => ?_)
  obtain ⟨rfl, e9⟩ := q; have e9 := e9.symm; subst e9
  change mi_WX _ pP X kX9_digest 4 0 0 27 [(3, .int 12), (1, .long (-1602342439274307196)), (0, .ref M)] [.long 5667616603625131772] g12 _
  refine mi_blk okX9_digest 5 (pc' := 14) (lv' := [(3, .int 13), (1, .long 5667616603625131772), (0, .ref M)]) (st' := [.int 13, .int 13]) rfl ?_
  refine mi_ic_ge okX9_digest rfl rfl (fun c_14 => ?_) (fun c_14 => absurd (by decide) c_14)
  refine mi_blk okX9_digest 4 (pc' := 38) (lv' := [(3, .int 0), (1, .long 5667616603625131772), (0, .ref M)]) (st' := [.ref M, .int 0]) rfl ?_
  refine mi_getf okX9_digest rfl fg_RX9_21 (show 6 ≤ _ by have := hw.1; omega) (mo_W.lt w12) c12 (v := .ref (M + 3)) rfl ?_
  refine mi_callV okX9_digest (mc := 0) (ms := 0) (mc' := 0) (ms' := 0) (b := (M + 3)) (As := []) (st := [.int 0]) rfl cv_RX9_42 rfl (by decide) (show 6 ≤ _ by have := w12.1; omega) (show _ < g12.1 by have := w12.1; omega) w12.2.2.1 rfl (Nat.le_of_ble_eq_true rfl) (m_size (h := g12) (show 6 ≤ _ by have := w12.1; omega) (show _ < g12.1 by have := w12.1; omega) w12.2.2.1) (fun r h1 q => ?_)
  obtain ⟨rfl, e9⟩ := q; have e9 := e9.symm; subst e9
  change mi_WX _ pP X kX9_digest 4 0 0 44 [(3, .int 0), (1, .long 5667616603625131772), (0, .ref M)] [.int 0, .int 0] g12 _
  refine mi_ic_ge okX9_digest rfl rfl (fun c_44 => ?_) (fun c_44 => absurd (by decide) c_44)
  refine mi_blk okX9_digest 2 (pc' := 84) (lv' := [(3, .int 0), (1, .long 5667616603625131772), (0, .ref M)]) (st' := []) rfl ?_
  refine mi_WX.locs (lv' := [(3, .int (nI 0)), (1, .long 5667616603625131772), (0, .ref M)]) (by simp [nI]) ?_
  refine lm_dig (h := g12) w12 c12 ?_ 240 0 rfl
  refine mi_blk okX9_digest 1 (pc' := 150) (lv' := [(3, .int (nI 240)), (1, .long 5667616603625131772), (0, .ref M)]) (st' := [.int 0]) rfl ?_
  refine mi_blk okX9_digest 3 (pc' := 154) (lv' := [(3, .int 0), (1, .long 5667616603625131772), (0, .ref M)]) (st' := [.int 10, .int 0]) rfl ?_
  refine mi_ic_ge okX9_digest rfl rfl (fun c_154 => absurd c_154 (by decide)) (fun c_154 => ?_)
  refine mi_blk okX9_digest 4 (pc' := 163) (lv' := [(4, .int 0), (3, .int 0), (1, .long 5667616603625131772), (0, .ref M)]) (st' := [.ref M, .int 0]) rfl ?_
  refine mi_getf okX9_digest rfl fg_RX9_124 (show 6 ≤ _ by have := hw.1; omega) (mo_W.lt w12) c12 (v := .int 0) rfl ?_
  refine mi_ic_ge okX9_digest rfl rfl (fun c_166 => ?_) (fun c_166 => absurd (by decide) c_166)
  refine mi_blk okX9_digest 4 (pc' := 154) (lv' := [(3, .int 1), (4, .int 0), (1, .long 5667616603625131772), (0, .ref M)]) (st' := [.int 10, .int 1]) rfl ?_
  refine mi_ic_ge okX9_digest rfl rfl (fun c_154 => absurd c_154 (by decide)) (fun c_154 => ?_)
  refine mi_blk okX9_digest 4 (pc' := 163) (lv' := [(4, .int 0), (3, .int 1), (1, .long 5667616603625131772), (0, .ref M)]) (st' := [.ref M, .int 0]) rfl ?_
  refine mi_getf okX9_digest rfl fg_RX9_124 (show 6 ≤ _ by have := hw.1; omega) (mo_W.lt w12) c12 (v := .int 0) rfl ?_
  refine mi_ic_ge okX9_digest rfl rfl (fun c_166 => ?_) (fun c_166 => absurd (by decide) c_166)
  refine mi_blk okX9_digest 4 (pc' := 154) (lv' := [(3, .int 2), (4, .int 0), (1, .long 5667616603625131772), (0, .ref M)]) (st' := [.int 10, .int 2]) rfl ?_
  refine mi_ic_ge okX9_digest rfl rfl (fun c_154 => absurd c_154 (by decide)) (fun c_154 => ?_)
  refine mi_blk okX9_digest 4 (pc' := 163) (lv' := [(4, .int 0), (3, .int 2), (1, .long 5667616603625131772), (0, .ref M)]) (st' := [.ref M, .int 0]) rfl ?_
  refine mi_getf okX9_digest rfl fg_RX9_124 (show 6 ≤ _ by have := hw.1; omega) (mo_W.lt w12) c12 (v := .int 0) rfl ?_
  refine mi_ic_ge okX9_digest rfl rfl (fun c_166 => ?_) (fun c_166 => absurd (by decide) c_166)
  refine mi_blk okX9_digest 4 (pc' := 154) (lv' := [(3, .int 3), (4, .int 0), (1, .long 5667616603625131772), (0, .ref M)]) (st' := [.int 10, .int 3]) rfl ?_
  refine mi_ic_ge okX9_digest rfl rfl (fun c_154 => absurd c_154 (by decide)) (fun c_154 => ?_)
  refine mi_blk okX9_digest 4 (pc' := 163) (lv' := [(4, .int 0), (3, .int 3), (1, .long 5667616603625131772), (0, .ref M)]) (st' := [.ref M, .int 0]) rfl ?_
  refine mi_getf okX9_digest rfl fg_RX9_124 (show 6 ≤ _ by have := hw.1; omega) (mo_W.lt w12) c12 (v := .int 0) rfl ?_
  refine mi_ic_ge okX9_digest rfl rfl (fun c_166 => ?_) (fun c_166 => absurd (by decide) c_166)
  refine mi_blk okX9_digest 4 (pc' := 154) (lv' := [(3, .int 4), (4, .int 0), (1, .long 5667616603625131772), (0, .ref M)]) (st' := [.int 10, .int 4]) rfl ?_
  refine mi_ic_ge okX9_digest rfl rfl (fun c_154 => absurd c_154 (by decide)) (fun c_154 => ?_)
  refine mi_blk okX9_digest 4 (pc' := 163) (lv' := [(4, .int 0), (3, .int 4), (1, .long 5667616603625131772), (0, .ref M)]) (st' := [.ref M, .int 0]) rfl ?_
  refine mi_getf okX9_digest rfl fg_RX9_124 (show 6 ≤ _ by have := hw.1; omega) (mo_W.lt w12) c12 (v := .int 0) rfl ?_
  refine mi_ic_ge okX9_digest rfl rfl (fun c_166 => ?_) (fun c_166 => absurd (by decide) c_166)
  refine mi_blk okX9_digest 4 (pc' := 154) (lv' := [(3, .int 5), (4, .int 0), (1, .long 5667616603625131772), (0, .ref M)]) (st' := [.int 10, .int 5]) rfl ?_
  refine mi_ic_ge okX9_digest rfl rfl (fun c_154 => absurd c_154 (by decide)) (fun c_154 => ?_)
  refine mi_blk okX9_digest 4 (pc' := 163) (lv' := [(4, .int 0), (3, .int 5), (1, .long 5667616603625131772), (0, .ref M)]) (st' := [.ref M, .int 0]) rfl ?_
  refine mi_getf okX9_digest rfl fg_RX9_124 (show 6 ≤ _ by have := hw.1; omega) (mo_W.lt w12) c12 (v := .int 0) rfl ?_
  refine mi_ic_ge okX9_digest rfl rfl (fun c_166 => ?_) (fun c_166 => absurd (by decide) c_166)
  refine mi_blk okX9_digest 4 (pc' := 154) (lv' := [(3, .int 6), (4, .int 0), (1, .long 5667616603625131772), (0, .ref M)]) (st' := [.int 10, .int 6]) rfl ?_
  refine mi_ic_ge okX9_digest rfl rfl (fun c_154 => absurd c_154 (by decide)) (fun c_154 => ?_)
  refine mi_blk okX9_digest 4 (pc' := 163) (lv' := [(4, .int 0), (3, .int 6), (1, .long 5667616603625131772), (0, .ref M)]) (st' := [.ref M, .int 0]) rfl ?_
  refine mi_getf okX9_digest rfl fg_RX9_124 (show 6 ≤ _ by have := hw.1; omega) (mo_W.lt w12) c12 (v := .int 0) rfl ?_
  refine mi_ic_ge okX9_digest rfl rfl (fun c_166 => ?_) (fun c_166 => absurd (by decide) c_166)
  refine mi_blk okX9_digest 4 (pc' := 154) (lv' := [(3, .int 7), (4, .int 0), (1, .long 5667616603625131772), (0, .ref M)]) (st' := [.int 10, .int 7]) rfl ?_
  refine mi_ic_ge okX9_digest rfl rfl (fun c_154 => absurd c_154 (by decide)) (fun c_154 => ?_)
  refine mi_blk okX9_digest 4 (pc' := 163) (lv' := [(4, .int 0), (3, .int 7), (1, .long 5667616603625131772), (0, .ref M)]) (st' := [.ref M, .int 0]) rfl ?_
  refine mi_getf okX9_digest rfl fg_RX9_124 (show 6 ≤ _ by have := hw.1; omega) (mo_W.lt w12) c12 (v := .int 0) rfl ?_
  refine mi_ic_ge okX9_digest rfl rfl (fun c_166 => ?_) (fun c_166 => absurd (by decide) c_166)
  refine mi_blk okX9_digest 4 (pc' := 154) (lv' := [(3, .int 8), (4, .int 0), (1, .long 5667616603625131772), (0, .ref M)]) (st' := [.int 10, .int 8]) rfl ?_
  refine mi_ic_ge okX9_digest rfl rfl (fun c_154 => absurd c_154 (by decide)) (fun c_154 => ?_)
  refine mi_blk okX9_digest 4 (pc' := 163) (lv' := [(4, .int 0), (3, .int 8), (1, .long 5667616603625131772), (0, .ref M)]) (st' := [.ref M, .int 0]) rfl ?_
  refine mi_getf okX9_digest rfl fg_RX9_124 (show 6 ≤ _ by have := hw.1; omega) (mo_W.lt w12) c12 (v := .int 0) rfl ?_
  refine mi_ic_ge okX9_digest rfl rfl (fun c_166 => ?_) (fun c_166 => absurd (by decide) c_166)
  refine mi_blk okX9_digest 4 (pc' := 154) (lv' := [(3, .int 9), (4, .int 0), (1, .long 5667616603625131772), (0, .ref M)]) (st' := [.int 10, .int 9]) rfl ?_
  refine mi_ic_ge okX9_digest rfl rfl (fun c_154 => absurd c_154 (by decide)) (fun c_154 => ?_)
  refine mi_blk okX9_digest 4 (pc' := 163) (lv' := [(4, .int 0), (3, .int 9), (1, .long 5667616603625131772), (0, .ref M)]) (st' := [.ref M, .int 0]) rfl ?_
  refine mi_getf okX9_digest rfl fg_RX9_124 (show 6 ≤ _ by have := hw.1; omega) (mo_W.lt w12) c12 (v := .int 0) rfl ?_
  refine mi_ic_ge okX9_digest rfl rfl (fun c_166 => ?_) (fun c_166 => absurd (by decide) c_166)
  refine mi_blk okX9_digest 4 (pc' := 154) (lv' := [(3, .int 10), (4, .int 0), (1, .long 5667616603625131772), (0, .ref M)]) (st' := [.int 10, .int 10]) rfl ?_
  refine mi_ic_ge okX9_digest rfl rfl (fun c_154 => ?_) (fun c_154 => absurd (by decide) c_154)
  refine mi_blk okX9_digest 2 (pc' := 213) (lv' := [(3, .int 10), (4, .int 0), (1, .long 5667616603625131772), (0, .ref M)]) (st' := [.ref M, .long 5667616603625131772]) rfl ?_
  refine mi_getf okX9_digest rfl fg_RX9_197 (show 6 ≤ _ by have := hw.1; omega) (mo_W.lt w12) c12 (v := .double 0) rfl ?_
  refine mi_blk okX9_digest 1 (pc' := 217) (lv' := [(3, .int 10), (4, .int 0), (1, .long 5667616603625131772), (0, .ref M)]) (st' := [.long (FP.d2l 0), .long 5667616603625131772]) rfl ?_
  refine mi_callS okX9_digest (mc := 0) (ms := 0) (mc' := 0) (ms' := 0) (As := [.long 5667616603625131772, .long (FP.d2l 0)]) (st := []) rfl cs_RX9_261 rfl (by decide) (Nat.le_of_ble_eq_true rfl) (m_add (v := (-8771326024716431228)) (by decide +kernel)) (fun r h1 q => ?_)
  obtain ⟨rfl, e9⟩ := q; have e9 := e9.symm; subst e9
  change mi_WX _ pP X kX9_digest 4 0 0 220 [(3, .int 10), (4, .int 0), (1, .long 5667616603625131772), (0, .ref M)] [.long (-8771326024716431228)] g12 _
  exact mi_ret_l okX9_digest rfl rfl ⟨rfl, (mp.set mo_0).tp (mo_W.lt (hw.set _)) u12⟩
set_option maxHeartbeats 4000000 in
set_option maxRecDepth 100000 in
theorem m_thrown {X : mi_X} {h : mi_H} {M : Nat} {u : mo_U} (hE : 6 ≤ M) (ha : M < h.1) {th : Int32} (hc : h.2 M = mo_c M th u) : mi_S pP X kX9_thrown 0 [.ref M] h 0 0 (fun r h1 => r = some (.int th) ∧ h1 = h) := by
  refine enX9_thrown (Nat.le_of_ble_eq_true rfl) ?_
  refine mi_blk okX9_thrown 1 (pc' := 1) (lv' := [(0, .ref M)]) (st' := [.ref M]) rfl ?_
  refine mi_getf okX9_thrown rfl fg_RX9_35 hE ha hc (v := .int th) rfl ?_
  exact mi_ret_i okX9_thrown rfl rfl rfl ⟨rfl, rfl⟩
