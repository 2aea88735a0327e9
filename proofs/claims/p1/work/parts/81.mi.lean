-- a fresh reference is made
set_option maxHeartbeats 4000000 in
set_option maxRecDepth 100000 in
theorem m_acol {X : mi_X} {h : mi_H} {a : Nat} : mi_S pP X kJxa1e45_init_da8c8 1 [.ref a] h 0 0 (fun r h1 => r = none ∧ h1 = h) := by
  refine enJxa1e45_init_da8c8 (Nat.le_of_ble_eq_true rfl) ?_
  refine mi_blk okJxa1e45_init_da8c8 1 (pc' := 1) (lv' := [(0, .ref a)]) (st' := [.ref a]) rfl ?_
  refine mi_objInit okJxa1e45_init_da8c8 rfl ob_RJxa1e45_1 ob_i ob_c (by decide) (Nat.le_of_ble_eq_true rfl) ?_
  exact mi_ret_v okJxa1e45_init_da8c8 rfl rfl ⟨rfl, rfl⟩
set_option maxHeartbeats 4000000 in
set_option maxRecDepth 100000 in
theorem m_alst {X : mi_X} {h : mi_H} {a : Nat} (hE : 6 ≤ a) (ha : a < h.1) (hc : h.2 a = .inr (13, [.int 0, .null, .int 0])) : mi_S pP X kJxc12de_init_da8c8 2 [.ref a] h 0 0 (fun r h1 => r = none ∧ h1 = h) := by
  refine enJxc12de_init_da8c8 (Nat.le_of_ble_eq_true rfl) ?_
  refine mi_blk okJxc12de_init_da8c8 1 (pc' := 1) (lv' := [(0, .ref a)]) (st' := [.ref a]) rfl ?_
  refine mi_callI okJxc12de_init_da8c8 (mc := 0) (ms := 0) (mc' := 0) (ms' := 0) (b := a) (As := []) (st := []) rfl ci_RJxc12de_1 rfl (by decide) (Nat.le_of_ble_eq_true rfl) m_acol (fun r h1 q => ?_)
  obtain ⟨rfl, e9⟩ := q; have e9 := e9.symm; subst e9
  change mi_WX _ pP X kJxc12de_init_da8c8 2 0 0 4 [(0, .ref a)] [] h _
  refine mi_blk okJxc12de_init_da8c8 2 (pc' := 6) (lv' := [(0, .ref a)]) (st' := [.int 0, .ref a]) rfl ?_
  refine mi_putf' okJxc12de_init_da8c8 rfl fd_RJxc12de_7 hE ha hc (fs' := [.int 0, .null, .int 0]) rfl (Nat.le_of_ble_eq_true rfl) rfl rfl ?_
  exact mi_ret_v okJxc12de_init_da8c8 rfl rfl ⟨rfl, mi_set_same hc⟩
set_option maxHeartbeats 4000000 in
set_option maxRecDepth 100000 in
theorem m_alist {X : mi_X} {h : mi_H} {a : Nat} (hE : 6 ≤ a) (ha : a < h.1) (hc : h.2 a = .inr (13, [.int 0, .null, .int 0])) : mi_S pP X kJx4a65c_init_da8c8 3 [.ref a] h 0 0 (fun r h1 => r = none ∧ h1 = mi_set h a (.inr (13, [.int 0, .ref 5, .int 0]))) := by
  refine enJx4a65c_init_da8c8 (Nat.le_of_ble_eq_true rfl) ?_
  refine mi_blk okJx4a65c_init_da8c8 1 (pc' := 1) (lv' := [(0, .ref a)]) (st' := [.ref a]) rfl ?_
  refine mi_callI okJx4a65c_init_da8c8 (mc := 0) (ms := 0) (mc' := 0) (ms' := 0) (b := a) (As := []) (st := []) rfl ci_RJx4a65c_1 rfl (by decide) (Nat.le_of_ble_eq_true rfl) (m_alst hE ha hc) (fun r h1 q => ?_)
  obtain ⟨rfl, e9⟩ := q; have e9 := e9.symm; subst e9
  change mi_WX _ pP X kJx4a65c_init_da8c8 3 0 0 4 [(0, .ref a)] [] h _
  refine mi_blk okJx4a65c_init_da8c8 1 (pc' := 5) (lv' := [(0, .ref a)]) (st' := [.ref a]) rfl ?_
  refine mi_gets okJx4a65c_init_da8c8 (a := 5) rfl (List.mem_of_getElem? (i := 4) rfl) sl_RJx4a65c_39 ?_
  refine mi_putf' okJx4a65c_init_da8c8 rfl fd_RJx4a65c_9 hE ha hc (fs' := [.int 0, .ref 5, .int 0]) rfl (Nat.le_of_ble_eq_true rfl) rfl rfl ?_
  exact mi_ret_v okJx4a65c_init_da8c8 rfl rfl ⟨rfl, rfl⟩
set_option maxHeartbeats 4000000 in
set_option maxRecDepth 100000 in
theorem lm_of {X : mi_X} {M : Nat} (hE : 6 ≤ M) {Q : Option Value → mi_H → Prop} : ∀ (m t : Nat), t + m = 240 → ∀ (h : mi_H) (f : Nat → Int32), h.2 M = .inr (9, [.int 0, .ref (M + 1), .ref (M + 2), .ref (M + 3), .ref (M + 4), .int 0, .int 0, .int 0, .int 4, .ref (M + 5), .int 0, .double 0, .int 0, .int 0, .int 0]) → M < h.1 → M + 4 < h.1 → h.2 (M + 4) = .inl (0, 240, .inl f) → (∀ i, i < t → f i = -1) → (∀ (f9 : Nat → Int32) (h9 : mi_H), h9.1 = h.1 → h9.2 (M + 4) = .inl (0, 240, .inl f9) → (∀ i, i < 240 → f9 i = -1) → (∀ b, b ≠ M + 4 → h9.2 b = h.2 b) → Q none h9) → mi_W pP X kX9_init 4 0 0 61 [(1, .int (nI t)), (0, .ref M)] [] h Q := by
  intro m
  induction m with
  | zero =>
    intro t ht h f hcM hlM hl4 hc4 hf kk
    obtain rfl : t = 240 := by omega
    refine mi_blk okX9_init 2 (pc' := 65) (lv' := [(1, .int (nI 240)), (0, .ref M)]) (st' := [.int 240, .int (nI 240)]) rfl ?_
    refine mi_ic_ge okX9_init rfl rfl (fun c_65 => ?_) (fun c_65 => absurd (by decide) c_65)
    exact mi_ret_v okX9_init rfl rfl (kk f h rfl hc4 hf (fun _ _ => rfl))
  | succ m ih =>
    intro t ht h f hcM hlM hl4 hc4 hf kk
    refine mi_blk okX9_init 2 (pc' := 65) (lv' := [(1, .int (nI t)), (0, .ref M)]) (st' := [.int 240, .int (nI t)]) rfl ?_
    refine mi_ic_ge okX9_init rfl rfl (fun c_65 => absurd c_65 (nI_ge (a := t) (b := 240) (by omega) (by decide))) (fun c_65 => ?_)
    refine mi_blk okX9_init 1 (pc' := 69) (lv' := [(1, .int (nI t)), (0, .ref M)]) (st' := [.ref M]) rfl ?_
    refine mi_getf okX9_init rfl fg_RX9_25 hE hlM hcM (v := .ref (M + 4)) rfl ?_
    refine mi_blk okX9_init 2 (pc' := 74) (lv' := [(1, .int (nI t)), (0, .ref M)]) (st' := [.int (-1), .int (nI t), .ref (M + 4)]) rfl ?_
    refine mo_ist okX9_init (j := t) rfl (show 6 ≤ M + 4 by omega) hl4 hc4 rfl (by omega) (by decide) ?_
    refine mi_blk okX9_init 1 (pc' := 78) (lv' := [(1, .int ((nI t) + 1)), (0, .ref M)]) (st' := []) rfl ?_
    refine mi_blk okX9_init 1 (pc' := 61) (lv' := [(1, .int ((nI t) + 1)), (0, .ref M)]) (st' := []) rfl ?_
    rw [← nI_succ]
    refine ih (t + 1) (by omega) _ _ ((mi_set_ne (by omega)).trans hcM) hlM hl4 mi_set_self (fun i hi => ?_) (fun f9 h9 z9 c9 g9 o9 => kk f9 h9 z9 c9 g9 (fun b hb => (o9 b hb).trans (mi_set_ne hb)))
    show (if i = t then (-1 : Int32) else f i) = -1
    by_cases e : i = t
    · rw [if_pos e]
    · rw [if_neg e]; exact hf i (by omega)
set_option maxHeartbeats 4000000 in
set_option maxRecDepth 100000 in
theorem m_init {X : mi_X} {M : Nat} {f0 : Nat → mi_C} (hE : 6 ≤ M) (hc : f0 M = .inr (9, [.int 0, .null, .null, .null, .null, .int 0, .int 0, .int 0, .int 0, .null, .int 0, .double 0, .int 0, .int 0, .int 0])) : mi_S pP X kX9_init 4 [.ref M] (M + 1, f0) 5 726 (fun r h1 => r = none ∧ h1.1 = M + 6 ∧ mo_W M h1 ∧ h1.2 M = mo_c M 0 mo_0 ∧ ∀ b, b < M → h1.2 b = f0 b) := by
  refine enX9_init (Nat.le_of_ble_eq_true rfl) ?_
  refine mi_blk okX9_init 1 (pc' := 1) (lv' := [(0, .ref M)]) (st' := [.ref M]) rfl ?_
  refine mi_objInit okX9_init rfl ob_RX9_1 ob_i ob_c (by decide) (Nat.le_of_ble_eq_true rfl) ?_
  refine mi_blk okX9_init 2 (pc' := 8) (lv' := [(0, .ref M)]) (st' := [.int 240, .ref M]) rfl ?_
  refine mi_newA okX9_init (mc := 4) (ms := 486) (t := 3) (N := 240) (ty := .int) rfl rfl cl_RX9_9 (by decide +kernel) (by decide) (by decide) (by decide) ?_
  change mi_WX _ pP X kX9_init 4 4 486 11 [(0, .ref M)] [.ref (M + 1), .ref M] (mi_psh (M + 1, f0) (ph_r 3 240 (fun _ => none))) _
  refine mi_putF' okX9_init rfl fd_RX9_11 rfl hE (Nat.lt_succ_of_lt (show M < M + 1 by omega)) ((mi_psh_lt (show M < M + 1 by omega)).trans hc) (fs' := [.int 0, .ref (M + 1), .null, .null, .null, .int 0, .int 0, .int 0, .int 0, .null, .int 0, .double 0, .int 0, .int 0, .int 0]) rfl (Nat.le_of_ble_eq_true rfl) rfl rfl ?_
  refine mi_blk okX9_init 2 (pc' := 18) (lv' := [(0, .ref M)]) (st' := [.int 240, .ref M]) rfl ?_
  refine mi_newa okX9_init (mc := 3) (ms := 246) (t := 0) (N := 240) (z := .inl (fun _ => 0)) rfl rfl ac_int (by decide) (by decide) (by decide) (fun _ => rfl) (fun _ => rfl) ?_
  change mi_WX _ pP X kX9_init 4 3 246 20 [(0, .ref M)] [.ref (M + 2), .ref M] (mi_psh (mi_set (mi_psh (M + 1, f0) (ph_r 3 240 (fun _ => none))) M (.inr (9, [.int 0, .ref (M + 1), .null, .null, .null, .int 0, .int 0, .int 0, .int 0, .null, .int 0, .double 0, .int 0, .int 0, .int 0]))) (.inl (0, 240, .inl (fun _ => 0)))) _
  refine mi_putF' okX9_init rfl fd_RX9_15 rfl hE (Nat.lt_succ_of_lt (Nat.lt_succ_of_lt (show M < M + 1 by omega))) ((mi_psh_lt (Nat.lt_succ_of_lt (show M < M + 1 by omega))).trans mi_set_self) (fs' := [.int 0, .ref (M + 1), .ref (M + 2), .null, .null, .int 0, .int 0, .int 0, .int 0, .null, .int 0, .double 0, .int 0, .int 0, .int 0]) rfl (Nat.le_of_ble_eq_true rfl) rfl rfl ?_
  refine mi_blk okX9_init 1 (pc' := 24) (lv' := [(0, .ref M)]) (st' := [.ref M]) rfl ?_
  refine mi_new okX9_init (mc := 2) (ms := 243) (ci := 13) (fs := [.int 0, .null, .int 0]) rfl cfJx4a65c cl_RX9_18 it_RJx4a65c iz_RJx4a65c (by decide +kernel) (fun _ => rfl) ?_
  change mi_WX _ pP X kX9_init 4 2 243 27 [(0, .ref M)] [.ref (M + 3), .ref M] (mi_psh (mi_set (mi_psh (mi_set (mi_psh (M + 1, f0) (ph_r 3 240 (fun _ => none))) M (.inr (9, [.int 0, .ref (M + 1), .null, .null, .null, .int 0, .int 0, .int 0, .int 0, .null, .int 0, .double 0, .int 0, .int 0, .int 0]))) (.inl (0, 240, .inl (fun _ => 0)))) M (.inr (9, [.int 0, .ref (M + 1), .ref (M + 2), .null, .null, .int 0, .int 0, .int 0, .int 0, .null, .int 0, .double 0, .int 0, .int 0, .int 0]))) (.inr (13, [.int 0, .null, .int 0]))) _
  refine mi_blk okX9_init 1 (pc' := 28) (lv' := [(0, .ref M)]) (st' := [.ref (M + 3), .ref (M + 3), .ref M]) rfl ?_
  refine mi_callI okX9_init (mc := 2) (ms := 243) (mc' := 0) (ms' := 0) (b := (M + 3)) (As := []) (st := [.ref (M + 3), .ref M]) rfl ci_RX9_20 rfl (by decide) (Nat.le_of_ble_eq_true rfl) (m_alist (h := (mi_psh (mi_set (mi_psh (mi_set (mi_psh (M + 1, f0) (ph_r 3 240 (fun _ => none))) M (.inr (9, [.int 0, .ref (M + 1), .null, .null, .null, .int 0, .int 0, .int 0, .int 0, .null, .int 0, .double 0, .int 0, .int 0, .int 0]))) (.inl (0, 240, .inl (fun _ => 0)))) M (.inr (9, [.int 0, .ref (M + 1), .ref (M + 2), .null, .null, .int 0, .int 0, .int 0, .int 0, .null, .int 0, .double 0, .int 0, .int 0, .int 0]))) (.inr (13, [.int 0, .null, .int 0])))) (by omega) (Nat.lt_succ_self _) mi_psh_self) (fun r h1 q => ?_)
  obtain ⟨rfl, e9⟩ := q; subst e9
  change mi_WX _ pP X kX9_init 4 2 243 31 [(0, .ref M)] [.ref (M + 3), .ref M] (mi_set (mi_psh (mi_set (mi_psh (mi_set (mi_psh (M + 1, f0) (ph_r 3 240 (fun _ => none))) M (.inr (9, [.int 0, .ref (M + 1), .null, .null, .null, .int 0, .int 0, .int 0, .int 0, .null, .int 0, .double 0, .int 0, .int 0, .int 0]))) (.inl (0, 240, .inl (fun _ => 0)))) M (.inr (9, [.int 0, .ref (M + 1), .ref (M + 2), .null, .null, .int 0, .int 0, .int 0, .int 0, .null, .int 0, .double 0, .int 0, .int 0, .int 0]))) (.inr (13, [.int 0, .null, .int 0]))) (M + 3) (.inr (13, [.int 0, .ref 5, .int 0]))) _
  refine mi_putF' okX9_init rfl fd_RX9_21 rfl hE (Nat.lt_succ_of_lt (Nat.lt_succ_of_lt (Nat.lt_succ_of_lt (show M < M + 1 by omega)))) ((mi_set_ne (by omega)).trans ((mi_psh_lt (Nat.lt_succ_of_lt (Nat.lt_succ_of_lt (show M < M + 1 by omega)))).trans mi_set_self)) (fs' := [.int 0, .ref (M + 1), .ref (M + 2), .ref (M + 3), .null, .int 0, .int 0, .int 0, .int 0, .null, .int 0, .double 0, .int 0, .int 0, .int 0]) rfl (Nat.le_of_ble_eq_true rfl) rfl rfl ?_
  refine mi_blk okX9_init 2 (pc' := 38) (lv' := [(0, .ref M)]) (st' := [.int 240, .ref M]) rfl ?_
  refine mi_newa okX9_init (mc := 1) (ms := 3) (t := 0) (N := 240) (z := .inl (fun _ => 0)) rfl rfl ac_int (by decide) (by decide) (by decide) (fun _ => rfl) (fun _ => rfl) ?_
  change mi_WX _ pP X kX9_init 4 1 3 40 [(0, .ref M)] [.ref (M + 4), .ref M] (mi_psh (mi_set (mi_set (mi_psh (mi_set (mi_psh (mi_set (mi_psh (M + 1, f0) (ph_r 3 240 (fun _ => none))) M (.inr (9, [.int 0, .ref (M + 1), .null, .null, .null, .int 0, .int 0, .int 0, .int 0, .null, .int 0, .double 0, .int 0, .int 0, .int 0]))) (.inl (0, 240, .inl (fun _ => 0)))) M (.inr (9, [.int 0, .ref (M + 1), .ref (M + 2), .null, .null, .int 0, .int 0, .int 0, .int 0, .null, .int 0, .double 0, .int 0, .int 0, .int 0]))) (.inr (13, [.int 0, .null, .int 0]))) (M + 3) (.inr (13, [.int 0, .ref 5, .int 0]))) M (.inr (9, [.int 0, .ref (M + 1), .ref (M + 2), .ref (M + 3), .null, .int 0, .int 0, .int 0, .int 0, .null, .int 0, .double 0, .int 0, .int 0, .int 0]))) (.inl (0, 240, .inl (fun _ => 0)))) _
  refine mi_putF' okX9_init rfl fd_RX9_25 rfl hE (Nat.lt_succ_of_lt (Nat.lt_succ_of_lt (Nat.lt_succ_of_lt (Nat.lt_succ_of_lt (show M < M + 1 by omega))))) ((mi_psh_lt (Nat.lt_succ_of_lt (Nat.lt_succ_of_lt (Nat.lt_succ_of_lt (show M < M + 1 by omega))))).trans mi_set_self) (fs' := [.int 0, .ref (M + 1), .ref (M + 2), .ref (M + 3), .ref (M + 4), .int 0, .int 0, .int 0, .int 0, .null, .int 0, .double 0, .int 0, .int 0, .int 0]) rfl (Nat.le_of_ble_eq_true rfl) rfl rfl ?_
  refine mi_blk okX9_init 2 (pc' := 45) (lv' := [(0, .ref M)]) (st' := [.int 4, .ref M]) rfl ?_
  refine mi_putf' okX9_init rfl fd_RX9_28 hE (Nat.lt_succ_of_lt (Nat.lt_succ_of_lt (Nat.lt_succ_of_lt (Nat.lt_succ_of_lt (show M < M + 1 by omega))))) mi_set_self (fs' := [.int 0, .ref (M + 1), .ref (M + 2), .ref (M + 3), .ref (M + 4), .int 0, .int 0, .int 0, .int 4, .null, .int 0, .double 0, .int 0, .int 0, .int 0]) rfl (Nat.le_of_ble_eq_true rfl) rfl rfl ?_
  rw [mi_set_set]
  refine mi_blk okX9_init 1 (pc' := 49) (lv' := [(0, .ref M)]) (st' := [.ref M]) rfl ?_
  refine mi_new okX9_init (mc := 0) (ms := 0) (ci := 13) (fs := [.int 0, .null, .int 0]) rfl cfJx4a65c cl_RX9_18 it_RJx4a65c iz_RJx4a65c (by decide +kernel) (fun _ => rfl) ?_
  change mi_WX _ pP X kX9_init 4 0 0 52 [(0, .ref M)] [.ref (M + 5), .ref M] (mi_psh (mi_set (mi_psh (mi_set (mi_set (mi_psh (mi_set (mi_psh (mi_set (mi_psh (M + 1, f0) (ph_r 3 240 (fun _ => none))) M (.inr (9, [.int 0, .ref (M + 1), .null, .null, .null, .int 0, .int 0, .int 0, .int 0, .null, .int 0, .double 0, .int 0, .int 0, .int 0]))) (.inl (0, 240, .inl (fun _ => 0)))) M (.inr (9, [.int 0, .ref (M + 1), .ref (M + 2), .null, .null, .int 0, .int 0, .int 0, .int 0, .null, .int 0, .double 0, .int 0, .int 0, .int 0]))) (.inr (13, [.int 0, .null, .int 0]))) (M + 3) (.inr (13, [.int 0, .ref 5, .int 0]))) M (.inr (9, [.int 0, .ref (M + 1), .ref (M + 2), .ref (M + 3), .null, .int 0, .int 0, .int 0, .int 0, .null, .int 0, .double 0, .int 0, .int 0, .int 0]))) (.inl (0, 240, .inl (fun _ => 0)))) M (.inr (9, [.int 0, .ref (M + 1), .ref (M + 2), .ref (M + 3), .ref (M + 4), .int 0, .int 0, .int 0, .int 4, .null, .int 0, .double 0, .int 0, .int 0, .int 0]))) (.inr (13, [.int 0, .null, .int 0]))) _
  refine mi_blk okX9_init 1 (pc' := 53) (lv' := [(0, .ref M)]) (st' := [.ref (M + 5), .ref (M + 5), .ref M]) rfl ?_
  refine mi_callI okX9_init (mc := 0) (ms := 0) (mc' := 0) (ms' := 0) (b := (M + 5)) (As := []) (st := [.ref (M + 5), .ref M]) rfl ci_RX9_20 rfl (by decide) (Nat.le_of_ble_eq_true rfl) (m_alist (h := (mi_psh (mi_set (mi_psh (mi_set (mi_set (mi_psh (mi_set (mi_psh (mi_set (mi_psh (M + 1, f0) (ph_r 3 240 (fun _ => none))) M (.inr (9, [.int 0, .ref (M + 1), .null, .null, .null, .int 0, .int 0, .int 0, .int 0, .null, .int 0, .double 0, .int 0, .int 0, .int 0]))) (.inl (0, 240, .inl (fun _ => 0)))) M (.inr (9, [.int 0, .ref (M + 1), .ref (M + 2), .null, .null, .int 0, .int 0, .int 0, .int 0, .null, .int 0, .double 0, .int 0, .int 0, .int 0]))) (.inr (13, [.int 0, .null, .int 0]))) (M + 3) (.inr (13, [.int 0, .ref 5, .int 0]))) M (.inr (9, [.int 0, .ref (M + 1), .ref (M + 2), .ref (M + 3), .null, .int 0, .int 0, .int 0, .int 0, .null, .int 0, .double 0, .int 0, .int 0, .int 0]))) (.inl (0, 240, .inl (fun _ => 0)))) M (.inr (9, [.int 0, .ref (M + 1), .ref (M + 2), .ref (M + 3), .ref (M + 4), .int 0, .int 0, .int 0, .int 4, .null, .int 0, .double 0, .int 0, .int 0, .int 0]))) (.inr (13, [.int 0, .null, .int 0])))) (by omega) (Nat.lt_succ_self _) mi_psh_self) (fun r h1 q => ?_)
  obtain ⟨rfl, e9⟩ := q; subst e9
  change mi_WX _ pP X kX9_init 4 0 0 56 [(0, .ref M)] [.ref (M + 5), .ref M] (mi_set (mi_psh (mi_set (mi_psh (mi_set (mi_set (mi_psh (mi_set (mi_psh (mi_set (mi_psh (M + 1, f0) (ph_r 3 240 (fun _ => none))) M (.inr (9, [.int 0, .ref (M + 1), .null, .null, .null, .int 0, .int 0, .int 0, .int 0, .null, .int 0, .double 0, .int 0, .int 0, .int 0]))) (.inl (0, 240, .inl (fun _ => 0)))) M (.inr (9, [.int 0, .ref (M + 1), .ref (M + 2), .null, .null, .int 0, .int 0, .int 0, .int 0, .null, .int 0, .double 0, .int 0, .int 0, .int 0]))) (.inr (13, [.int 0, .null, .int 0]))) (M + 3) (.inr (13, [.int 0, .ref 5, .int 0]))) M (.inr (9, [.int 0, .ref (M + 1), .ref (M + 2), .ref (M + 3), .null, .int 0, .int 0, .int 0, .int 0, .null, .int 0, .double 0, .int 0, .int 0, .int 0]))) (.inl (0, 240, .inl (fun _ => 0)))) M (.inr (9, [.int 0, .ref (M + 1), .ref (M + 2), .ref (M + 3), .ref (M + 4), .int 0, .int 0, .int 0, .int 4, .null, .int 0, .double 0, .int 0, .int 0, .int 0]))) (.inr (13, [.int 0, .null, .int 0]))) (M + 5) (.inr (13, [.int 0, .ref 5, .int 0]))) _
  refine mi_putF' okX9_init rfl fd_RX9_32 rfl hE (Nat.lt_succ_of_lt (Nat.lt_succ_of_lt (Nat.lt_succ_of_lt (Nat.lt_succ_of_lt (Nat.lt_succ_of_lt (show M < M + 1 by omega)))))) ((mi_set_ne (by omega)).trans ((mi_psh_lt (Nat.lt_succ_of_lt (Nat.lt_succ_of_lt (Nat.lt_succ_of_lt (Nat.lt_succ_of_lt (show M < M + 1 by omega)))))).trans mi_set_self)) (fs' := [.int 0, .ref (M + 1), .ref (M + 2), .ref (M + 3), .ref (M + 4), .int 0, .int 0, .int 0, .int 4, .ref (M + 5), .int 0, .double 0, .int 0, .int 0, .int 0]) rfl (Nat.le_of_ble_eq_true rfl) rfl rfl ?_
  refine mi_blk okX9_init 2 (pc' := 61) (lv' := [(1, .int 0), (0, .ref M)]) (st' := []) rfl ?_
  refine mi_WX.locs (lv' := [(1, .int (nI 0)), (0, .ref M)]) (by simp [nI]) ?_
  refine lm_of hE 240 0 rfl (mi_set (mi_set (mi_psh (mi_set (mi_psh (mi_set (mi_set (mi_psh (mi_set (mi_psh (mi_set (mi_psh (M + 1, f0) (ph_r 3 240 (fun _ => none))) M (.inr (9, [.int 0, .ref (M + 1), .null, .null, .null, .int 0, .int 0, .int 0, .int 0, .null, .int 0, .double 0, .int 0, .int 0, .int 0]))) (.inl (0, 240, .inl (fun _ => 0)))) M (.inr (9, [.int 0, .ref (M + 1), .ref (M + 2), .null, .null, .int 0, .int 0, .int 0, .int 0, .null, .int 0, .double 0, .int 0, .int 0, .int 0]))) (.inr (13, [.int 0, .null, .int 0]))) (M + 3) (.inr (13, [.int 0, .ref 5, .int 0]))) M (.inr (9, [.int 0, .ref (M + 1), .ref (M + 2), .ref (M + 3), .null, .int 0, .int 0, .int 0, .int 0, .null, .int 0, .double 0, .int 0, .int 0, .int 0]))) (.inl (0, 240, .inl (fun _ => 0)))) M (.inr (9, [.int 0, .ref (M + 1), .ref (M + 2), .ref (M + 3), .ref (M + 4), .int 0, .int 0, .int 0, .int 4, .null, .int 0, .double 0, .int 0, .int 0, .int 0]))) (.inr (13, [.int 0, .null, .int 0]))) (M + 5) (.inr (13, [.int 0, .ref 5, .int 0]))) M (.inr (9, [.int 0, .ref (M + 1), .ref (M + 2), .ref (M + 3), .ref (M + 4), .int 0, .int 0, .int 0, .int 4, .ref (M + 5), .int 0, .double 0, .int 0, .int 0, .int 0]))) _ mi_set_self (show M < _ from (Nat.lt_succ_of_lt (Nat.lt_succ_of_lt (Nat.lt_succ_of_lt (Nat.lt_succ_of_lt (Nat.lt_succ_of_lt (show M < M + 1 by omega))))))) (show M + 4 < _ from (Nat.lt_succ_of_lt (Nat.lt_succ_self _))) ((mi_set_ne (by omega)).trans ((mi_set_ne (by omega)).trans ((mi_psh_lt (Nat.lt_succ_self _)).trans ((mi_set_ne (by omega)).trans mi_psh_self)))) (fun i hi => absurd hi (by omega)) (fun f9 h9 z9 c9 g9 o9 => ⟨rfl, z9, ⟨⟨hE, ?_⟩, ?_, ?_, f9, c9, g9⟩, ?_, ?_⟩)
  · rw [z9]; exact Nat.le_refl _
  · exact (o9 (M + 1) (by omega)).trans ((mi_set_ne (by omega)).trans ((mi_set_ne (by omega)).trans ((mi_psh_lt (Nat.lt_succ_of_lt (Nat.lt_succ_of_lt (Nat.lt_succ_of_lt (Nat.lt_succ_self _))))).trans ((mi_set_ne (by omega)).trans ((mi_psh_lt (Nat.lt_succ_of_lt (Nat.lt_succ_of_lt (Nat.lt_succ_self _)))).trans ((mi_set_ne (by omega)).trans ((mi_set_ne (by omega)).trans ((mi_psh_lt (Nat.lt_succ_of_lt (Nat.lt_succ_self _))).trans ((mi_set_ne (by omega)).trans ((mi_psh_lt (Nat.lt_succ_self _)).trans ((mi_set_ne (by omega)).trans mi_psh_self)))))))))))
  · exact (o9 (M + 3) (by omega)).trans ((mi_set_ne (by omega)).trans ((mi_set_ne (by omega)).trans ((mi_psh_lt (Nat.lt_succ_of_lt (Nat.lt_succ_self _))).trans ((mi_set_ne (by omega)).trans ((mi_psh_lt (Nat.lt_succ_self _)).trans ((mi_set_ne (by omega)).trans mi_set_self))))))
  · exact (o9 M (by omega)).trans mi_set_self
  · intro b hb
    rw [o9 b (by omega)]
    exact ((mi_set_ne (by omega)).trans ((mi_set_ne (by omega)).trans ((mi_psh_lt (Nat.lt_succ_of_lt (Nat.lt_succ_of_lt (Nat.lt_succ_of_lt (Nat.lt_succ_of_lt (show b < M + 1 by omega)))))).trans ((mi_set_ne (by omega)).trans ((mi_psh_lt (Nat.lt_succ_of_lt (Nat.lt_succ_of_lt (Nat.lt_succ_of_lt (show b < M + 1 by omega))))).trans ((mi_set_ne (by omega)).trans ((mi_set_ne (by omega)).trans ((mi_psh_lt (Nat.lt_succ_of_lt (Nat.lt_succ_of_lt (show b < M + 1 by omega)))).trans ((mi_set_ne (by omega)).trans ((mi_psh_lt (Nat.lt_succ_of_lt (show b < M + 1 by omega))).trans ((mi_set_ne (by omega)).trans ((mi_psh_lt (show b < M + 1 by omega)).trans rfl))))))))))))
