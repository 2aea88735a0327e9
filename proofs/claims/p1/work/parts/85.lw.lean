-- the law
theorem lg_cmp_self (a : Int64) : lg_cmp a a = 0 := by
  unfold lg_cmp
  rw [if_neg (show ¬ a > a from Int64.lt_irrefl), if_pos rfl]
theorem mi_WX.more {QX : Nat → Nat → mi_H → Prop} {P : mi_P} {X : mi_X} {k d mc ms mc' ms' pc : Nat} {lv : mi_L} {st : List Value} {h : mi_H} {Q : Option Value → mi_H → Prop} (h1 : mc ≤ mc') (h2 : ms ≤ ms') (w : mi_WX QX P X k d mc ms pc lv st h Q) : mi_WX QX P X k d mc' ms' pc lv st h Q :=
  fun p l e R s m args below meth c H locs cells slots Z D dA b0 xa ls F hS hmc hms hR hl hZ => w p l e R s m args below meth c H locs cells slots Z D dA b0 xa ls F hS (by omega) (by omega) hR hl hZ
/-- fresh: the object at B, the reference at B + 518, the two rows for the answers behind -/
def LC (B : Nat) (h : mi_H) : Prop := ph_W B ph_0 (fun _ _ => 0) (fun _ _ => 0) h ∧ mo_W (B + 518) h ∧ h.2 (B + 518) = mo_c (B + 518) 0 mo_0 ∧ h.2 (B + 524) = oL (fun _ => 0) ∧ h.2 (B + 525) = oD (fun _ => 0) ∧ h.1 = B + 526
theorem LC.mo {B O : Nat} {h h1 : mi_H} {c : mi_C} {code : Int32} (hL : LC B h) (hO : B + 524 ≤ O) (a : hp B h O c code h1) : mo_W (B + 518) h1 ∧ h1.2 (B + 518) = mo_c (B + 518) 0 mo_0 := by
  obtain ⟨l1, ⟨hz, hb, ht, f, hf, hg⟩, l3, l4, l5, l6⟩ := hL
  obtain ⟨a1, a2, a3⟩ := a
  exact ⟨⟨⟨hz.1, Nat.le_trans hz.2 a1⟩, (a2 _ (by omega) (by omega) (by omega)).trans hb, (a2 _ (by omega) (by omega) (by omega)).trans ht, f, (a2 _ (by omega) (by omega) (by omega)).trans hf, hg⟩, (a2 _ (by omega) (by omega) (by omega)).trans l3⟩
theorem LC.fr {B : Nat} {h h1 : mi_H} (hL : LC B h) (a : fr B h h1) : mo_W (B + 518) h1 ∧ h1.2 (B + 518) = mo_c (B + 518) 0 mo_0 := by
  obtain ⟨l1, ⟨hz, hb, ht, f, hf, hg⟩, l3, l4, l5, l6⟩ := hL
  obtain ⟨a1, a2⟩ := a
  exact ⟨⟨⟨hz.1, by rw [a1]; exact hz.2⟩, (a2 _ (by omega)).trans hb, (a2 _ (by omega)).trans ht, f, (a2 _ (by omega)).trans hf, hg⟩, (a2 _ (by omega)).trans l3⟩
theorem LC.out {B O : Nat} {h h1 h2 : mi_H} {c : mi_C} {code : Int32} (hL : LC B h) (hO : B + 524 ≤ O ∧ O < B + 526) (a : hp B h O c code h1) (b : mp (B + 518) h1 code h2) (hc : code = 0) : O < h2.1 ∧ h2.2 O = c := by
  have l6 := hL.2.2.2.2.2
  have a1 := a.1
  have b1 := b.1
  exact ⟨by omega, (b.2.2 O (by omega) (Or.inr (by omega))).trans (a.2.2 hc)⟩
section LWX
variable {X : mi_X} {d mc ms pc : Nat} {lv : mi_L} {st : List Value} {h : mi_H} {Q : Option Value → mi_H → Prop} {tb : List (Nat × Instr)}
theorem lw_ld (ht : mi_tb (pP.2.2.2.1 kL_law).2.1 tb) (hX5 : (X 0).1 = 5) {i : Int32} (j : Nat) (hi : mi_at tb pc = some .iaload) (hij : i = nI j) (hj : j < 5) (kk : mi_W pP X kL_law d mc ms (pc + 1) lv (.int ((X 0).2 j) :: st) h Q) : mi_W pP X kL_law d mc ms pc lv (.int i :: .ref 0 :: st) h Q := by
  subst hij
  refine mi_xld ht (a := 0) hi (by decide) (vp_in_lt (by rw [hX5]; exact hj) (by rw [hX5]; decide)) ?_
  rw [nI_clamp (by omega)]
  exact kk
end LWX
set_option maxHeartbeats 4000000 in
set_option maxRecDepth 100000 in
theorem l_end {X : mi_X} (hX5 : (X 0).1 = 5) {h : mi_H} {mc ms : Nat} : mi_W pP X kL_law 9 mc ms 1732 [(5, .int 0), (0, .ref 0)] [] h (fun r _ => r = some (.int 1)) := by
  refine mi_blk okL_law_25 2 (pc' := 28) (lv' := [(5, .int 5), (0, .ref 0)]) (st' := []) rfl ?_
  refine mi_blk okL_law_0 1 (pc' := 30) (lv' := [(5, .int 5), (0, .ref 0)]) (st' := [.int 5]) rfl ?_
  refine mi_blk okL_law_0 1 (pc' := 31) (lv' := [(5, .int 5), (0, .ref 0)]) (st' := [.ref 0, .int 5]) rfl ?_
  refine mi_xlen okL_law_0 (a := 0) rfl (by decide) ?_
  rw [hX5]
  refine mi_blk okL_law_0 1 (pc' := 33) (lv' := [(5, .int 5), (0, .ref 0)]) (st' := [.int 5, .int (Int32.ofNat 5), .int 5]) rfl ?_
  refine mi_blk okL_law_0 1 (pc' := 34) (lv' := [(5, .int 5), (0, .ref 0)]) (st' := [.int ((Int32.ofNat 5) - 5), .int 5]) rfl ?_
  refine mi_ic_gt okL_law_0 rfl rfl (fun c_34 => ?_) (fun c_34 => absurd (by decide) c_34)
  refine mi_blk okL_law_25 1 (pc' := 1739) (lv' := [(5, .int 5), (0, .ref 0)]) (st' := [.int 1]) rfl ?_
  exact mi_ret_i okL_law_25 rfl rfl rfl rfl
set_option maxHeartbeats 4000000 in
set_option maxRecDepth 100000 in
theorem w_session {X : mi_X} (hX5 : (X 0).1 = 5) (hX1 : mi_X1 X) (hX : mi_X23 X) {B : Nat} {h : mi_H} (hL : LC B h) : mi_W pP X kL_law 9 30 300 160 [(5, .int 0), (4, .ref (B + 525)), (3, .ref (B + 524)), (2, .ref (B + 518)), (1, .ref B), (0, .ref 0)] [] h (fun r _ => r = some (.int 1)) := by
  refine mi_blk okL_law_0 2 (pc' := 162) (lv' := [(5, .int 0), (4, .ref (B + 525)), (3, .ref (B + 524)), (2, .ref (B + 518)), (1, .ref B), (0, .ref 0)]) (st' := [.ref (B + 524), .ref B]) rfl ?_
  obtain ⟨code, v, s1, s2⟩ := a_session (X := X) hX1 hX hL.1 (O := (B + 524)) (show B + 518 ≤ (B + 524) ∧ (B + 524) < h.1 by rw [hL.2.2.2.2.2]; omega) hL.2.2.2.1
  refine mi_callSH okL_law_0 (mc := 29) (ms := 294) (mc' := 1) (ms' := 6) (As := [.ref B, .ref (B + 524)]) (st := []) rfl ch_RL_91 rfl (by decide) (Nat.le_of_ble_eq_true rfl) s1 (fun r h1 q => ?_)
  obtain ⟨rfl, e1⟩ := q
  obtain ⟨w1, c1⟩ := hL.mo (by omega) e1
  change mi_WX _ pP X kL_law 9 29 294 165 [(5, .int 0), (4, .ref (B + 525)), (3, .ref (B + 524)), (2, .ref (B + 518)), (1, .ref B), (0, .ref 0)] [.int code] h1 _
  refine mi_blk okL_law_0 1 (pc' := 167) (lv' := [(6, .int code), (5, .int 0), (4, .ref (B + 525)), (3, .ref (B + 524)), (2, .ref (B + 518)), (1, .ref B), (0, .ref 0)]) (st' := []) rfl ?_
  refine mi_blk okL_law_0 1 (pc' := 168) (lv' := [(6, .int code), (5, .int 0), (4, .ref (B + 525)), (3, .ref (B + 524)), (2, .ref (B + 518)), (1, .ref B), (0, .ref 0)]) (st' := [.ref (B + 518)]) rfl ?_
  refine mi_callV okL_law_0 (mc := 29) (ms := 294) (mc' := 0) (ms' := 0) (b := (B + 518)) (As := []) (st := []) rfl cv_RL_96 rfl (by decide) (show 6 ≤ _ by have := hL.1.z.1; omega) (mo_W.lt w1) c1 rfl (Nat.le_of_ble_eq_true rfl) (s2 (B + 518) h1 w1 c1) (fun r h2 q => ?_)
  obtain ⟨rfl, e2⟩ := q
  obtain ⟨u9, c2⟩ := e2.2.1
  have l2 : B + 518 < h2.1 := Nat.lt_of_lt_of_le (mo_W.lt w1) e2.1
  change mi_WX _ pP X kL_law 9 29 294 171 [(6, .int code), (5, .int 0), (4, .ref (B + 525)), (3, .ref (B + 524)), (2, .ref (B + 518)), (1, .ref B), (0, .ref 0)] [.int v] h2 _
  refine mi_blk okL_law_0 1 (pc' := 173) (lv' := [(7, .int v), (6, .int code), (5, .int 0), (4, .ref (B + 525)), (3, .ref (B + 524)), (2, .ref (B + 518)), (1, .ref B), (0, .ref 0)]) (st' := []) rfl ?_
  refine mi_blk okL_law_0 1 (pc' := 174) (lv' := [(7, .int v), (6, .int code), (5, .int 0), (4, .ref (B + 525)), (3, .ref (B + 524)), (2, .ref (B + 518)), (1, .ref B), (0, .ref 0)]) (st' := [.ref (B + 518)]) rfl ?_
  refine mi_callV okL_law_0 (mc := 29) (ms := 294) (mc' := 0) (ms' := 0) (b := (B + 518)) (As := []) (st := []) rfl cv_RL_97 rfl (by decide) (show 6 ≤ _ by have := hL.1.z.1; omega) l2 c2 rfl (Nat.le_of_ble_eq_true rfl) (m_thrown (show 6 ≤ B + 518 by have := hL.1.z.1; omega) l2 c2) (fun r h9 q => ?_)
  obtain ⟨rfl, e9⟩ := q; have e9 := e9.symm; subst e9
  change mi_WX _ pP X kL_law 9 29 294 177 [(7, .int v), (6, .int code), (5, .int 0), (4, .ref (B + 525)), (3, .ref (B + 524)), (2, .ref (B + 518)), (1, .ref B), (0, .ref 0)] [.int code] h2 _
  refine mi_blk okL_law_0 1 (pc' := 179) (lv' := [(7, .int v), (6, .int code), (5, .int 0), (4, .ref (B + 525)), (3, .ref (B + 524)), (2, .ref (B + 518)), (1, .ref B), (0, .ref 0)]) (st' := [.int code, .int code]) rfl ?_
  refine mi_ic_eq okL_law_0 rfl rfl (fun c_179 => ?_) (fun c_179 => absurd rfl c_179)
  refine mi_blk okL_law_1 1 (pc' := 186) (lv' := [(7, .int v), (6, .int code), (5, .int 0), (4, .ref (B + 525)), (3, .ref (B + 524)), (2, .ref (B + 518)), (1, .ref B), (0, .ref 0)]) (st' := [.int code]) rfl ?_
  refine mi_if_ne okL_law_1 rfl rfl (fun c_186 => ?_) (fun c_186 => ?_)
  · refine mi_blk okL_law_1 1 (pc' := 1732) (lv' := [(7, .int v), (6, .int code), (5, .int 0), (4, .ref (B + 525)), (3, .ref (B + 524)), (2, .ref (B + 518)), (1, .ref B), (0, .ref 0)]) (st' := []) rfl ?_
    exact mi_WX.locs (lv' := [(5, .int 0), (0, .ref 0)]) (by simp) (l_end hX5)
  · have e3 := hL.out (O := (B + 524)) (by omega) e1 e2 c_186
    refine mi_blk okL_law_1 1 (pc' := 190) (lv' := [(7, .int v), (6, .int code), (5, .int 0), (4, .ref (B + 525)), (3, .ref (B + 524)), (2, .ref (B + 518)), (1, .ref B), (0, .ref 0)]) (st' := [.ref (B + 524)]) rfl ?_
    refine mi_blk okL_law_1 1 (pc' := 191) (lv' := [(7, .int v), (6, .int code), (5, .int 0), (4, .ref (B + 525)), (3, .ref (B + 524)), (2, .ref (B + 518)), (1, .ref B), (0, .ref 0)]) (st' := [.int 0, .ref (B + 524)]) rfl ?_
    refine mo_lld okL_law_1 rfl (show 6 ≤ _ by have := hL.1.z.1; omega) e3.1 e3.2 ?_
    change mi_WX _ pP X kL_law 9 29 294 192 [(7, .int v), (6, .int code), (5, .int 0), (4, .ref (B + 525)), (3, .ref (B + 524)), (2, .ref (B + 518)), (1, .ref B), (0, .ref 0)] [.long v.toInt64] h2 _
    refine mi_blk okL_law_1 3 (pc' := 196) (lv' := [(7, .int v), (6, .int code), (5, .int 0), (4, .ref (B + 525)), (3, .ref (B + 524)), (2, .ref (B + 518)), (1, .ref B), (0, .ref 0)]) (st' := [.int (lg_cmp v.toInt64 v.toInt64)]) rfl ?_
    refine mi_if_eq okL_law_1 rfl rfl (fun c_196 => ?_) (fun c_196 => absurd (lg_cmp_self _) c_196)
    refine mi_blk okL_law_1 1 (pc' := 1732) (lv' := [(7, .int v), (6, .int code), (5, .int 0), (4, .ref (B + 525)), (3, .ref (B + 524)), (2, .ref (B + 518)), (1, .ref B), (0, .ref 0)]) (st' := []) rfl ?_
    exact mi_WX.locs (lv' := [(5, .int 0), (0, .ref 0)]) (by simp) (l_end hX5)
set_option maxHeartbeats 4000000 in
set_option maxRecDepth 100000 in
theorem w_track {X : mi_X} (hX5 : (X 0).1 = 5) (hX1 : mi_X1 X) (hX : mi_X23 X) {B : Nat} {h : mi_H} (hL : LC B h) : mi_W pP X kL_law 9 30 300 204 [(5, .int 0), (4, .ref (B + 525)), (3, .ref (B + 524)), (2, .ref (B + 518)), (1, .ref B), (0, .ref 0)] [] h (fun r _ => r = some (.int 1)) := by
  refine mi_blk okL_law_1 5 (pc' := 210) (lv' := [(5, .int 0), (4, .ref (B + 525)), (3, .ref (B + 524)), (2, .ref (B + 518)), (1, .ref B), (0, .ref 0)]) (st' := [.int 1, .ref 0, .ref B]) rfl ?_
  refine lw_ld okL_law_1 hX5 1 rfl rfl (by decide) ?_
  refine mi_blk okL_law_1 4 (pc' := 216) (lv' := [(5, .int 0), (4, .ref (B + 525)), (3, .ref (B + 524)), (2, .ref (B + 518)), (1, .ref B), (0, .ref 0)]) (st' := [.int 2, .ref 0, .int ((X 0).2 1), .ref B]) rfl ?_
  refine lw_ld okL_law_1 hX5 2 rfl rfl (by decide) ?_
  refine mi_blk okL_law_1 1 (pc' := 218) (lv' := [(5, .int 0), (4, .ref (B + 525)), (3, .ref (B + 524)), (2, .ref (B + 518)), (1, .ref B), (0, .ref 0)]) (st' := [.ref (B + 524), .int ((X 0).2 2), .int ((X 0).2 1), .ref B]) rfl ?_
  obtain ⟨code, v, s1, s2⟩ := a_track (X := X) hX1 hX hL.1 (O := (B + 524)) (show B + 518 ≤ (B + 524) ∧ (B + 524) < h.1 by rw [hL.2.2.2.2.2]; omega) hL.2.2.2.1 ((X 0).2 1) ((X 0).2 2)
  refine mi_callSH okL_law_1 (mc := 29) (ms := 294) (mc' := 1) (ms' := 6) (As := [.ref B, .int ((X 0).2 1), .int ((X 0).2 2), .ref (B + 524)]) (st := []) rfl ch_RL_100 rfl (by decide) (Nat.le_of_ble_eq_true rfl) s1 (fun r h1 q => ?_)
  obtain ⟨rfl, e1⟩ := q
  obtain ⟨w1, c1⟩ := hL.mo (by omega) e1
  change mi_WX _ pP X kL_law 9 29 294 221 [(5, .int 0), (4, .ref (B + 525)), (3, .ref (B + 524)), (2, .ref (B + 518)), (1, .ref B), (0, .ref 0)] [.int code] h1 _
  refine mi_blk okL_law_1 1 (pc' := 223) (lv' := [(6, .int code), (5, .int 0), (4, .ref (B + 525)), (3, .ref (B + 524)), (2, .ref (B + 518)), (1, .ref B), (0, .ref 0)]) (st' := []) rfl ?_
  refine mi_blk okL_law_1 5 (pc' := 229) (lv' := [(6, .int code), (5, .int 0), (4, .ref (B + 525)), (3, .ref (B + 524)), (2, .ref (B + 518)), (1, .ref B), (0, .ref 0)]) (st' := [.int 1, .ref 0, .ref (B + 518)]) rfl ?_
  refine lw_ld okL_law_1 hX5 1 rfl rfl (by decide) ?_
  refine mi_blk okL_law_1 4 (pc' := 235) (lv' := [(6, .int code), (5, .int 0), (4, .ref (B + 525)), (3, .ref (B + 524)), (2, .ref (B + 518)), (1, .ref B), (0, .ref 0)]) (st' := [.int 2, .ref 0, .int ((X 0).2 1), .ref (B + 518)]) rfl ?_
  refine lw_ld okL_law_1 hX5 2 rfl rfl (by decide) ?_
  refine mi_callV okL_law_1 (mc := 29) (ms := 294) (mc' := 0) (ms' := 0) (b := (B + 518)) (As := [.int ((X 0).2 1), .int ((X 0).2 2)]) (st := []) rfl cv_RL_103 rfl (by decide) (show 6 ≤ _ by have := hL.1.z.1; omega) (mo_W.lt w1) c1 rfl (Nat.le_of_ble_eq_true rfl) (s2 (B + 518) h1 w1 c1) (fun r h2 q => ?_)
  obtain ⟨rfl, e2⟩ := q
  obtain ⟨u9, c2⟩ := e2.2.1
  have l2 : B + 518 < h2.1 := Nat.lt_of_lt_of_le (mo_W.lt w1) e2.1
  change mi_WX _ pP X kL_law 9 29 294 239 [(6, .int code), (5, .int 0), (4, .ref (B + 525)), (3, .ref (B + 524)), (2, .ref (B + 518)), (1, .ref B), (0, .ref 0)] [.int v] h2 _
  refine mi_blk okL_law_1 1 (pc' := 241) (lv' := [(7, .int v), (6, .int code), (5, .int 0), (4, .ref (B + 525)), (3, .ref (B + 524)), (2, .ref (B + 518)), (1, .ref B), (0, .ref 0)]) (st' := []) rfl ?_
  refine mi_blk okL_law_1 1 (pc' := 242) (lv' := [(7, .int v), (6, .int code), (5, .int 0), (4, .ref (B + 525)), (3, .ref (B + 524)), (2, .ref (B + 518)), (1, .ref B), (0, .ref 0)]) (st' := [.ref (B + 518)]) rfl ?_
  refine mi_callV okL_law_2 (mc := 29) (ms := 294) (mc' := 0) (ms' := 0) (b := (B + 518)) (As := []) (st := []) rfl cv_RL_97 rfl (by decide) (show 6 ≤ _ by have := hL.1.z.1; omega) l2 c2 rfl (Nat.le_of_ble_eq_true rfl) (m_thrown (show 6 ≤ B + 518 by have := hL.1.z.1; omega) l2 c2) (fun r h9 q => ?_)
  obtain ⟨rfl, e9⟩ := q; have e9 := e9.symm; subst e9
  change mi_WX _ pP X kL_law 9 29 294 245 [(7, .int v), (6, .int code), (5, .int 0), (4, .ref (B + 525)), (3, .ref (B + 524)), (2, .ref (B + 518)), (1, .ref B), (0, .ref 0)] [.int code] h2 _
  refine mi_blk okL_law_2 1 (pc' := 247) (lv' := [(7, .int v), (6, .int code), (5, .int 0), (4, .ref (B + 525)), (3, .ref (B + 524)), (2, .ref (B + 518)), (1, .ref B), (0, .ref 0)]) (st' := [.int code, .int code]) rfl ?_
  refine mi_ic_eq okL_law_2 rfl rfl (fun c_247 => ?_) (fun c_247 => absurd rfl c_247)
  refine mi_blk okL_law_2 1 (pc' := 254) (lv' := [(7, .int v), (6, .int code), (5, .int 0), (4, .ref (B + 525)), (3, .ref (B + 524)), (2, .ref (B + 518)), (1, .ref B), (0, .ref 0)]) (st' := [.int code]) rfl ?_
  refine mi_if_ne okL_law_2 rfl rfl (fun c_254 => ?_) (fun c_254 => ?_)
  · refine mi_blk okL_law_2 1 (pc' := 1732) (lv' := [(7, .int v), (6, .int code), (5, .int 0), (4, .ref (B + 525)), (3, .ref (B + 524)), (2, .ref (B + 518)), (1, .ref B), (0, .ref 0)]) (st' := []) rfl ?_
    exact mi_WX.locs (lv' := [(5, .int 0), (0, .ref 0)]) (by simp) (l_end hX5)
  · have e3 := hL.out (O := (B + 524)) (by omega) e1 e2 c_254
    refine mi_blk okL_law_2 1 (pc' := 258) (lv' := [(7, .int v), (6, .int code), (5, .int 0), (4, .ref (B + 525)), (3, .ref (B + 524)), (2, .ref (B + 518)), (1, .ref B), (0, .ref 0)]) (st' := [.ref (B + 524)]) rfl ?_
    refine mi_blk okL_law_2 1 (pc' := 259) (lv' := [(7, .int v), (6, .int code), (5, .int 0), (4, .ref (B + 525)), (3, .ref (B + 524)), (2, .ref (B + 518)), (1, .ref B), (0, .ref 0)]) (st' := [.int 0, .ref (B + 524)]) rfl ?_
    refine mo_lld okL_law_2 rfl (show 6 ≤ _ by have := hL.1.z.1; omega) e3.1 e3.2 ?_
    change mi_WX _ pP X kL_law 9 29 294 260 [(7, .int v), (6, .int code), (5, .int 0), (4, .ref (B + 525)), (3, .ref (B + 524)), (2, .ref (B + 518)), (1, .ref B), (0, .ref 0)] [.long v.toInt64] h2 _
    refine mi_blk okL_law_2 3 (pc' := 264) (lv' := [(7, .int v), (6, .int code), (5, .int 0), (4, .ref (B + 525)), (3, .ref (B + 524)), (2, .ref (B + 518)), (1, .ref B), (0, .ref 0)]) (st' := [.int (lg_cmp v.toInt64 v.toInt64)]) rfl ?_
    refine mi_if_eq okL_law_2 rfl rfl (fun c_264 => ?_) (fun c_264 => absurd (lg_cmp_self _) c_264)
    refine mi_blk okL_law_2 1 (pc' := 1732) (lv' := [(7, .int v), (6, .int code), (5, .int 0), (4, .ref (B + 525)), (3, .ref (B + 524)), (2, .ref (B + 518)), (1, .ref B), (0, .ref 0)]) (st' := []) rfl ?_
    exact mi_WX.locs (lv' := [(5, .int 0), (0, .ref 0)]) (by simp) (l_end hX5)
set_option maxHeartbeats 4000000 in
set_option maxRecDepth 100000 in
theorem w_write {X : mi_X} (hX5 : (X 0).1 = 5) (hX1 : mi_X1 X) (hX : mi_X23 X) {B : Nat} {h : mi_H} (hL : LC B h) : mi_W pP X kL_law 9 30 300 272 [(5, .int 0), (4, .ref (B + 525)), (3, .ref (B + 524)), (2, .ref (B + 518)), (1, .ref B), (0, .ref 0)] [] h (fun r _ => r = some (.int 1)) := by
  refine mi_blk okL_law_2 5 (pc' := 278) (lv' := [(5, .int 0), (4, .ref (B + 525)), (3, .ref (B + 524)), (2, .ref (B + 518)), (1, .ref B), (0, .ref 0)]) (st' := [.int 1, .ref 0, .ref B]) rfl ?_
  refine lw_ld okL_law_2 hX5 1 rfl rfl (by decide) ?_
  refine mi_blk okL_law_2 4 (pc' := 284) (lv' := [(5, .int 0), (4, .ref (B + 525)), (3, .ref (B + 524)), (2, .ref (B + 518)), (1, .ref B), (0, .ref 0)]) (st' := [.int 2, .ref 0, .int ((X 0).2 1), .ref B]) rfl ?_
  refine lw_ld okL_law_2 hX5 2 rfl rfl (by decide) ?_
  refine mi_blk okL_law_2 7 (pc' := 294) (lv' := [(5, .int 0), (4, .ref (B + 525)), (3, .ref (B + 524)), (2, .ref (B + 518)), (1, .ref B), (0, .ref 0)]) (st' := [.int 3, .ref 0, .long (mi_lshl (((X 0).2 2).toInt64) 32), .int ((X 0).2 1), .ref B]) rfl ?_
  refine lw_ld okL_law_2 hX5 3 rfl rfl (by decide) ?_
  refine mi_blk okL_law_2 1 (pc' := 296) (lv' := [(5, .int 0), (4, .ref (B + 525)), (3, .ref (B + 524)), (2, .ref (B + 518)), (1, .ref B), (0, .ref 0)]) (st' := [.long (((X 0).2 3).toInt64), .long (mi_lshl (((X 0).2 2).toInt64) 32), .int ((X 0).2 1), .ref B]) rfl ?_
  refine mi_ldc2 okL_law_2 (v := (4294967295 : Int64)) rfl kc_RL_104 ?_
  refine mi_blk okL_law_2 2 (pc' := 301) (lv' := [(5, .int 0), (4, .ref (B + 525)), (3, .ref (B + 524)), (2, .ref (B + 518)), (1, .ref B), (0, .ref 0)]) (st' := [.long ((mi_lshl (((X 0).2 2).toInt64) 32) ||| ((((X 0).2 3).toInt64) &&& (4294967295 : Int64))), .int ((X 0).2 1), .ref B]) rfl ?_
  refine mi_blk okL_law_3 1 (pc' := 302) (lv' := [(5, .int 0), (4, .ref (B + 525)), (3, .ref (B + 524)), (2, .ref (B + 518)), (1, .ref B), (0, .ref 0)]) (st' := [.ref (B + 524), .long ((mi_lshl (((X 0).2 2).toInt64) 32) ||| ((((X 0).2 3).toInt64) &&& (4294967295 : Int64))), .int ((X 0).2 1), .ref B]) rfl ?_
  obtain ⟨code, v, s1, s2⟩ := a_write (X := X) hX1 hX hL.1 (O := (B + 524)) (show B + 518 ≤ (B + 524) ∧ (B + 524) < h.1 by rw [hL.2.2.2.2.2]; omega) hL.2.2.2.1 ((X 0).2 1) ((mi_lshl (((X 0).2 2).toInt64) 32) ||| ((((X 0).2 3).toInt64) &&& (4294967295 : Int64)))
  refine mi_callSH okL_law_3 (mc := 29) (ms := 294) (mc' := 1) (ms' := 6) (As := [.ref B, .int ((X 0).2 1), .long ((mi_lshl (((X 0).2 2).toInt64) 32) ||| ((((X 0).2 3).toInt64) &&& (4294967295 : Int64))), .ref (B + 524)]) (st := []) rfl ch_RL_106 rfl (by decide) (Nat.le_of_ble_eq_true rfl) s1 (fun r h1 q => ?_)
  obtain ⟨rfl, e1⟩ := q
  obtain ⟨w1, c1⟩ := hL.mo (by omega) e1
  change mi_WX _ pP X kL_law 9 29 294 305 [(5, .int 0), (4, .ref (B + 525)), (3, .ref (B + 524)), (2, .ref (B + 518)), (1, .ref B), (0, .ref 0)] [.int code] h1 _
  refine mi_blk okL_law_3 1 (pc' := 307) (lv' := [(6, .int code), (5, .int 0), (4, .ref (B + 525)), (3, .ref (B + 524)), (2, .ref (B + 518)), (1, .ref B), (0, .ref 0)]) (st' := []) rfl ?_
  refine mi_blk okL_law_3 5 (pc' := 313) (lv' := [(6, .int code), (5, .int 0), (4, .ref (B + 525)), (3, .ref (B + 524)), (2, .ref (B + 518)), (1, .ref B), (0, .ref 0)]) (st' := [.int 1, .ref 0, .ref (B + 518)]) rfl ?_
  refine lw_ld okL_law_3 hX5 1 rfl rfl (by decide) ?_
  refine mi_blk okL_law_3 4 (pc' := 319) (lv' := [(6, .int code), (5, .int 0), (4, .ref (B + 525)), (3, .ref (B + 524)), (2, .ref (B + 518)), (1, .ref B), (0, .ref 0)]) (st' := [.int 2, .ref 0, .int ((X 0).2 1), .ref (B + 518)]) rfl ?_
  refine lw_ld okL_law_3 hX5 2 rfl rfl (by decide) ?_
  refine mi_blk okL_law_3 7 (pc' := 329) (lv' := [(6, .int code), (5, .int 0), (4, .ref (B + 525)), (3, .ref (B + 524)), (2, .ref (B + 518)), (1, .ref B), (0, .ref 0)]) (st' := [.int 3, .ref 0, .long (mi_lshl (((X 0).2 2).toInt64) 32), .int ((X 0).2 1), .ref (B + 518)]) rfl ?_
  refine lw_ld okL_law_3 hX5 3 rfl rfl (by decide) ?_
  refine mi_blk okL_law_3 1 (pc' := 331) (lv' := [(6, .int code), (5, .int 0), (4, .ref (B + 525)), (3, .ref (B + 524)), (2, .ref (B + 518)), (1, .ref B), (0, .ref 0)]) (st' := [.long (((X 0).2 3).toInt64), .long (mi_lshl (((X 0).2 2).toInt64) 32), .int ((X 0).2 1), .ref (B + 518)]) rfl ?_
  refine mi_ldc2 okL_law_3 (v := (4294967295 : Int64)) rfl kc_RL_104 ?_
  refine mi_blk okL_law_3 2 (pc' := 336) (lv' := [(6, .int code), (5, .int 0), (4, .ref (B + 525)), (3, .ref (B + 524)), (2, .ref (B + 518)), (1, .ref B), (0, .ref 0)]) (st' := [.long ((mi_lshl (((X 0).2 2).toInt64) 32) ||| ((((X 0).2 3).toInt64) &&& (4294967295 : Int64))), .int ((X 0).2 1), .ref (B + 518)]) rfl ?_
  refine mi_callV okL_law_3 (mc := 29) (ms := 294) (mc' := 0) (ms' := 0) (b := (B + 518)) (As := [.int ((X 0).2 1), .long ((mi_lshl (((X 0).2 2).toInt64) 32) ||| ((((X 0).2 3).toInt64) &&& (4294967295 : Int64)))]) (st := []) rfl cv_RL_109 rfl (by decide) (show 6 ≤ _ by have := hL.1.z.1; omega) (mo_W.lt w1) c1 rfl (Nat.le_of_ble_eq_true rfl) (s2 (B + 518) h1 w1 c1) (fun r h2 q => ?_)
  obtain ⟨rfl, e2⟩ := q
  obtain ⟨u9, c2⟩ := e2.2.1
  have l2 : B + 518 < h2.1 := Nat.lt_of_lt_of_le (mo_W.lt w1) e2.1
  change mi_WX _ pP X kL_law 9 29 294 339 [(6, .int code), (5, .int 0), (4, .ref (B + 525)), (3, .ref (B + 524)), (2, .ref (B + 518)), (1, .ref B), (0, .ref 0)] [.int v] h2 _
  refine mi_blk okL_law_3 1 (pc' := 341) (lv' := [(7, .int v), (6, .int code), (5, .int 0), (4, .ref (B + 525)), (3, .ref (B + 524)), (2, .ref (B + 518)), (1, .ref B), (0, .ref 0)]) (st' := []) rfl ?_
  refine mi_blk okL_law_3 1 (pc' := 342) (lv' := [(7, .int v), (6, .int code), (5, .int 0), (4, .ref (B + 525)), (3, .ref (B + 524)), (2, .ref (B + 518)), (1, .ref B), (0, .ref 0)]) (st' := [.ref (B + 518)]) rfl ?_
  refine mi_callV okL_law_3 (mc := 29) (ms := 294) (mc' := 0) (ms' := 0) (b := (B + 518)) (As := []) (st := []) rfl cv_RL_97 rfl (by decide) (show 6 ≤ _ by have := hL.1.z.1; omega) l2 c2 rfl (Nat.le_of_ble_eq_true rfl) (m_thrown (show 6 ≤ B + 518 by have := hL.1.z.1; omega) l2 c2) (fun r h9 q => ?_)
  obtain ⟨rfl, e9⟩ := q; have e9 := e9.symm; subst e9
  change mi_WX _ pP X kL_law 9 29 294 345 [(7, .int v), (6, .int code), (5, .int 0), (4, .ref (B + 525)), (3, .ref (B + 524)), (2, .ref (B + 518)), (1, .ref B), (0, .ref 0)] [.int code] h2 _
  refine mi_blk okL_law_3 1 (pc' := 347) (lv' := [(7, .int v), (6, .int code), (5, .int 0), (4, .ref (B + 525)), (3, .ref (B + 524)), (2, .ref (B + 518)), (1, .ref B), (0, .ref 0)]) (st' := [.int code, .int code]) rfl ?_
  refine mi_ic_eq okL_law_3 rfl rfl (fun c_347 => ?_) (fun c_347 => absurd rfl c_347)
  refine mi_blk okL_law_3 1 (pc' := 354) (lv' := [(7, .int v), (6, .int code), (5, .int 0), (4, .ref (B + 525)), (3, .ref (B + 524)), (2, .ref (B + 518)), (1, .ref B), (0, .ref 0)]) (st' := [.int code]) rfl ?_
  refine mi_if_ne okL_law_3 rfl rfl (fun c_354 => ?_) (fun c_354 => ?_)
  · refine mi_blk okL_law_4 1 (pc' := 1732) (lv' := [(7, .int v), (6, .int code), (5, .int 0), (4, .ref (B + 525)), (3, .ref (B + 524)), (2, .ref (B + 518)), (1, .ref B), (0, .ref 0)]) (st' := []) rfl ?_
    exact mi_WX.locs (lv' := [(5, .int 0), (0, .ref 0)]) (by simp) (l_end hX5)
  · have e3 := hL.out (O := (B + 524)) (by omega) e1 e2 c_354
    refine mi_blk okL_law_3 1 (pc' := 358) (lv' := [(7, .int v), (6, .int code), (5, .int 0), (4, .ref (B + 525)), (3, .ref (B + 524)), (2, .ref (B + 518)), (1, .ref B), (0, .ref 0)]) (st' := [.ref (B + 524)]) rfl ?_
    refine mi_blk okL_law_3 1 (pc' := 359) (lv' := [(7, .int v), (6, .int code), (5, .int 0), (4, .ref (B + 525)), (3, .ref (B + 524)), (2, .ref (B + 518)), (1, .ref B), (0, .ref 0)]) (st' := [.int 0, .ref (B + 524)]) rfl ?_
    refine mo_lld okL_law_3 rfl (show 6 ≤ _ by have := hL.1.z.1; omega) e3.1 e3.2 ?_
    change mi_WX _ pP X kL_law 9 29 294 360 [(7, .int v), (6, .int code), (5, .int 0), (4, .ref (B + 525)), (3, .ref (B + 524)), (2, .ref (B + 518)), (1, .ref B), (0, .ref 0)] [.long v.toInt64] h2 _
    refine mi_blk okL_law_3 1 (pc' := 362) (lv' := [(7, .int v), (6, .int code), (5, .int 0), (4, .ref (B + 525)), (3, .ref (B + 524)), (2, .ref (B + 518)), (1, .ref B), (0, .ref 0)]) (st' := [.int v, .long v.toInt64]) rfl ?_
    refine mi_blk okL_law_4 1 (pc' := 363) (lv' := [(7, .int v), (6, .int code), (5, .int 0), (4, .ref (B + 525)), (3, .ref (B + 524)), (2, .ref (B + 518)), (1, .ref B), (0, .ref 0)]) (st' := [.long v.toInt64, .long v.toInt64]) rfl ?_
    refine mi_blk okL_law_4 1 (pc' := 364) (lv' := [(7, .int v), (6, .int code), (5, .int 0), (4, .ref (B + 525)), (3, .ref (B + 524)), (2, .ref (B + 518)), (1, .ref B), (0, .ref 0)]) (st' := [.int (lg_cmp v.toInt64 v.toInt64)]) rfl ?_
    refine mi_if_eq okL_law_4 rfl rfl (fun c_364 => ?_) (fun c_364 => absurd (lg_cmp_self _) c_364)
    refine mi_blk okL_law_4 1 (pc' := 1732) (lv' := [(7, .int v), (6, .int code), (5, .int 0), (4, .ref (B + 525)), (3, .ref (B + 524)), (2, .ref (B + 518)), (1, .ref B), (0, .ref 0)]) (st' := []) rfl ?_
    exact mi_WX.locs (lv' := [(5, .int 0), (0, .ref 0)]) (by simp) (l_end hX5)
set_option maxHeartbeats 4000000 in
set_option maxRecDepth 100000 in
theorem w_starve {X : mi_X} (hX5 : (X 0).1 = 5) (hX1 : mi_X1 X) (hX : mi_X23 X) {B : Nat} {h : mi_H} (hL : LC B h) : mi_W pP X kL_law 9 30 300 372 [(5, .int 0), (4, .ref (B + 525)), (3, .ref (B + 524)), (2, .ref (B + 518)), (1, .ref B), (0, .ref 0)] [] h (fun r _ => r = some (.int 1)) := by
  refine mi_blk okL_law_4 5 (pc' := 378) (lv' := [(5, .int 0), (4, .ref (B + 525)), (3, .ref (B + 524)), (2, .ref (B + 518)), (1, .ref B), (0, .ref 0)]) (st' := [.int 1, .ref 0, .ref B]) rfl ?_
  refine lw_ld okL_law_4 hX5 1 rfl rfl (by decide) ?_
  refine mi_blk okL_law_4 1 (pc' := 380) (lv' := [(5, .int 0), (4, .ref (B + 525)), (3, .ref (B + 524)), (2, .ref (B + 518)), (1, .ref B), (0, .ref 0)]) (st' := [.ref (B + 524), .int ((X 0).2 1), .ref B]) rfl ?_
  obtain ⟨code, v, s1, s2⟩ := a_starve (X := X) hX1 hX hL.1 (O := (B + 524)) (show B + 518 ≤ (B + 524) ∧ (B + 524) < h.1 by rw [hL.2.2.2.2.2]; omega) hL.2.2.2.1 ((X 0).2 1)
  refine mi_callSH okL_law_4 (mc := 29) (ms := 294) (mc' := 1) (ms' := 6) (As := [.ref B, .int ((X 0).2 1), .ref (B + 524)]) (st := []) rfl ch_RL_110 rfl (by decide) (Nat.le_of_ble_eq_true rfl) s1 (fun r h1 q => ?_)
  obtain ⟨rfl, e1⟩ := q
  obtain ⟨w1, c1⟩ := hL.mo (by omega) e1
  change mi_WX _ pP X kL_law 9 29 294 383 [(5, .int 0), (4, .ref (B + 525)), (3, .ref (B + 524)), (2, .ref (B + 518)), (1, .ref B), (0, .ref 0)] [.int code] h1 _
  refine mi_blk okL_law_4 1 (pc' := 385) (lv' := [(6, .int code), (5, .int 0), (4, .ref (B + 525)), (3, .ref (B + 524)), (2, .ref (B + 518)), (1, .ref B), (0, .ref 0)]) (st' := []) rfl ?_
  refine mi_blk okL_law_4 5 (pc' := 391) (lv' := [(6, .int code), (5, .int 0), (4, .ref (B + 525)), (3, .ref (B + 524)), (2, .ref (B + 518)), (1, .ref B), (0, .ref 0)]) (st' := [.int 1, .ref 0, .ref (B + 518)]) rfl ?_
  refine lw_ld okL_law_4 hX5 1 rfl rfl (by decide) ?_
  refine mi_callV okL_law_4 (mc := 29) (ms := 294) (mc' := 0) (ms' := 0) (b := (B + 518)) (As := [.int ((X 0).2 1)]) (st := []) rfl cv_RL_113 rfl (by decide) (show 6 ≤ _ by have := hL.1.z.1; omega) (mo_W.lt w1) c1 rfl (Nat.le_of_ble_eq_true rfl) (s2 (B + 518) h1 w1 c1) (fun r h2 q => ?_)
  obtain ⟨rfl, e2⟩ := q
  obtain ⟨u9, c2⟩ := e2.2.1
  have l2 : B + 518 < h2.1 := Nat.lt_of_lt_of_le (mo_W.lt w1) e2.1
  change mi_WX _ pP X kL_law 9 29 294 395 [(6, .int code), (5, .int 0), (4, .ref (B + 525)), (3, .ref (B + 524)), (2, .ref (B + 518)), (1, .ref B), (0, .ref 0)] [.int v] h2 _
  refine mi_blk okL_law_4 1 (pc' := 397) (lv' := [(7, .int v), (6, .int code), (5, .int 0), (4, .ref (B + 525)), (3, .ref (B + 524)), (2, .ref (B + 518)), (1, .ref B), (0, .ref 0)]) (st' := []) rfl ?_
  refine mi_blk okL_law_4 1 (pc' := 398) (lv' := [(7, .int v), (6, .int code), (5, .int 0), (4, .ref (B + 525)), (3, .ref (B + 524)), (2, .ref (B + 518)), (1, .ref B), (0, .ref 0)]) (st' := [.ref (B + 518)]) rfl ?_
  refine mi_callV okL_law_4 (mc := 29) (ms := 294) (mc' := 0) (ms' := 0) (b := (B + 518)) (As := []) (st := []) rfl cv_RL_97 rfl (by decide) (show 6 ≤ _ by have := hL.1.z.1; omega) l2 c2 rfl (Nat.le_of_ble_eq_true rfl) (m_thrown (show 6 ≤ B + 518 by have := hL.1.z.1; omega) l2 c2) (fun r h9 q => ?_)
  obtain ⟨rfl, e9⟩ := q; have e9 := e9.symm; subst e9
  change mi_WX _ pP X kL_law 9 29 294 401 [(7, .int v), (6, .int code), (5, .int 0), (4, .ref (B + 525)), (3, .ref (B + 524)), (2, .ref (B + 518)), (1, .ref B), (0, .ref 0)] [.int code] h2 _
  refine mi_blk okL_law_4 1 (pc' := 403) (lv' := [(7, .int v), (6, .int code), (5, .int 0), (4, .ref (B + 525)), (3, .ref (B + 524)), (2, .ref (B + 518)), (1, .ref B), (0, .ref 0)]) (st' := [.int code, .int code]) rfl ?_
  refine mi_ic_eq okL_law_4 rfl rfl (fun c_403 => ?_) (fun c_403 => absurd rfl c_403)
  refine mi_blk okL_law_4 1 (pc' := 410) (lv' := [(7, .int v), (6, .int code), (5, .int 0), (4, .ref (B + 525)), (3, .ref (B + 524)), (2, .ref (B + 518)), (1, .ref B), (0, .ref 0)]) (st' := [.int code]) rfl ?_
  refine mi_if_ne okL_law_4 rfl rfl (fun c_410 => ?_) (fun c_410 => ?_)
  · refine mi_blk okL_law_5 1 (pc' := 1732) (lv' := [(7, .int v), (6, .int code), (5, .int 0), (4, .ref (B + 525)), (3, .ref (B + 524)), (2, .ref (B + 518)), (1, .ref B), (0, .ref 0)]) (st' := []) rfl ?_
    exact mi_WX.locs (lv' := [(5, .int 0), (0, .ref 0)]) (by simp) (l_end hX5)
  · have e3 := hL.out (O := (B + 524)) (by omega) e1 e2 c_410
    refine mi_blk okL_law_4 1 (pc' := 414) (lv' := [(7, .int v), (6, .int code), (5, .int 0), (4, .ref (B + 525)), (3, .ref (B + 524)), (2, .ref (B + 518)), (1, .ref B), (0, .ref 0)]) (st' := [.ref (B + 524)]) rfl ?_
    refine mi_blk okL_law_4 1 (pc' := 415) (lv' := [(7, .int v), (6, .int code), (5, .int 0), (4, .ref (B + 525)), (3, .ref (B + 524)), (2, .ref (B + 518)), (1, .ref B), (0, .ref 0)]) (st' := [.int 0, .ref (B + 524)]) rfl ?_
    refine mo_lld okL_law_4 rfl (show 6 ≤ _ by have := hL.1.z.1; omega) e3.1 e3.2 ?_
    change mi_WX _ pP X kL_law 9 29 294 416 [(7, .int v), (6, .int code), (5, .int 0), (4, .ref (B + 525)), (3, .ref (B + 524)), (2, .ref (B + 518)), (1, .ref B), (0, .ref 0)] [.long v.toInt64] h2 _
    refine mi_blk okL_law_4 3 (pc' := 420) (lv' := [(7, .int v), (6, .int code), (5, .int 0), (4, .ref (B + 525)), (3, .ref (B + 524)), (2, .ref (B + 518)), (1, .ref B), (0, .ref 0)]) (st' := [.int (lg_cmp v.toInt64 v.toInt64)]) rfl ?_
    refine mi_if_eq okL_law_4 rfl rfl (fun c_420 => ?_) (fun c_420 => absurd (lg_cmp_self _) c_420)
    refine mi_blk okL_law_5 1 (pc' := 1732) (lv' := [(7, .int v), (6, .int code), (5, .int 0), (4, .ref (B + 525)), (3, .ref (B + 524)), (2, .ref (B + 518)), (1, .ref B), (0, .ref 0)]) (st' := []) rfl ?_
    exact mi_WX.locs (lv' := [(5, .int 0), (0, .ref 0)]) (by simp) (l_end hX5)
set_option maxHeartbeats 4000000 in
set_option maxRecDepth 100000 in
theorem w_close {X : mi_X} (hX5 : (X 0).1 = 5) (hX1 : mi_X1 X) (hX : mi_X23 X) {B : Nat} {h : mi_H} (hL : LC B h) : mi_W pP X kL_law 9 30 300 428 [(5, .int 0), (4, .ref (B + 525)), (3, .ref (B + 524)), (2, .ref (B + 518)), (1, .ref B), (0, .ref 0)] [] h (fun r _ => r = some (.int 1)) := by
  refine mi_blk okL_law_5 5 (pc' := 434) (lv' := [(5, .int 0), (4, .ref (B + 525)), (3, .ref (B + 524)), (2, .ref (B + 518)), (1, .ref B), (0, .ref 0)]) (st' := [.int 1, .ref 0, .ref B]) rfl ?_
  refine lw_ld okL_law_5 hX5 1 rfl rfl (by decide) ?_
  refine mi_blk okL_law_5 1 (pc' := 436) (lv' := [(5, .int 0), (4, .ref (B + 525)), (3, .ref (B + 524)), (2, .ref (B + 518)), (1, .ref B), (0, .ref 0)]) (st' := [.ref (B + 524), .int ((X 0).2 1), .ref B]) rfl ?_
  obtain ⟨code, v, s1, s2⟩ := a_close (X := X) hX1 hX hL.1 (O := (B + 524)) (show B + 518 ≤ (B + 524) ∧ (B + 524) < h.1 by rw [hL.2.2.2.2.2]; omega) hL.2.2.2.1 ((X 0).2 1)
  refine mi_callSH okL_law_5 (mc := 29) (ms := 294) (mc' := 1) (ms' := 6) (As := [.ref B, .int ((X 0).2 1), .ref (B + 524)]) (st := []) rfl ch_RL_114 rfl (by decide) (Nat.le_of_ble_eq_true rfl) s1 (fun r h1 q => ?_)
  obtain ⟨rfl, e1⟩ := q
  obtain ⟨w1, c1⟩ := hL.mo (by omega) e1
  change mi_WX _ pP X kL_law 9 29 294 439 [(5, .int 0), (4, .ref (B + 525)), (3, .ref (B + 524)), (2, .ref (B + 518)), (1, .ref B), (0, .ref 0)] [.int code] h1 _
  refine mi_blk okL_law_5 1 (pc' := 441) (lv' := [(6, .int code), (5, .int 0), (4, .ref (B + 525)), (3, .ref (B + 524)), (2, .ref (B + 518)), (1, .ref B), (0, .ref 0)]) (st' := []) rfl ?_
  refine mi_blk okL_law_5 5 (pc' := 447) (lv' := [(6, .int code), (5, .int 0), (4, .ref (B + 525)), (3, .ref (B + 524)), (2, .ref (B + 518)), (1, .ref B), (0, .ref 0)]) (st' := [.int 1, .ref 0, .ref (B + 518)]) rfl ?_
  refine lw_ld okL_law_5 hX5 1 rfl rfl (by decide) ?_
  refine mi_callV okL_law_5 (mc := 29) (ms := 294) (mc' := 0) (ms' := 0) (b := (B + 518)) (As := [.int ((X 0).2 1)]) (st := []) rfl cv_RL_116 rfl (by decide) (show 6 ≤ _ by have := hL.1.z.1; omega) (mo_W.lt w1) c1 rfl (Nat.le_of_ble_eq_true rfl) (s2 (B + 518) h1 w1 c1) (fun r h2 q => ?_)
  obtain ⟨rfl, e2⟩ := q
  obtain ⟨u9, c2⟩ := e2.2.1
  have l2 : B + 518 < h2.1 := Nat.lt_of_lt_of_le (mo_W.lt w1) e2.1
  change mi_WX _ pP X kL_law 9 29 294 451 [(6, .int code), (5, .int 0), (4, .ref (B + 525)), (3, .ref (B + 524)), (2, .ref (B + 518)), (1, .ref B), (0, .ref 0)] [.int v] h2 _
  refine mi_blk okL_law_5 1 (pc' := 453) (lv' := [(7, .int v), (6, .int code), (5, .int 0), (4, .ref (B + 525)), (3, .ref (B + 524)), (2, .ref (B + 518)), (1, .ref B), (0, .ref 0)]) (st' := []) rfl ?_
  refine mi_blk okL_law_5 1 (pc' := 454) (lv' := [(7, .int v), (6, .int code), (5, .int 0), (4, .ref (B + 525)), (3, .ref (B + 524)), (2, .ref (B + 518)), (1, .ref B), (0, .ref 0)]) (st' := [.ref (B + 518)]) rfl ?_
  refine mi_callV okL_law_5 (mc := 29) (ms := 294) (mc' := 0) (ms' := 0) (b := (B + 518)) (As := []) (st := []) rfl cv_RL_97 rfl (by decide) (show 6 ≤ _ by have := hL.1.z.1; omega) l2 c2 rfl (Nat.le_of_ble_eq_true rfl) (m_thrown (show 6 ≤ B + 518 by have := hL.1.z.1; omega) l2 c2) (fun r h9 q => ?_)
  obtain ⟨rfl, e9⟩ := q; have e9 := e9.symm; subst e9
  change mi_WX _ pP X kL_law 9 29 294 457 [(7, .int v), (6, .int code), (5, .int 0), (4, .ref (B + 525)), (3, .ref (B + 524)), (2, .ref (B + 518)), (1, .ref B), (0, .ref 0)] [.int code] h2 _
  refine mi_blk okL_law_5 1 (pc' := 459) (lv' := [(7, .int v), (6, .int code), (5, .int 0), (4, .ref (B + 525)), (3, .ref (B + 524)), (2, .ref (B + 518)), (1, .ref B), (0, .ref 0)]) (st' := [.int code, .int code]) rfl ?_
  refine mi_ic_eq okL_law_5 rfl rfl (fun c_459 => ?_) (fun c_459 => absurd rfl c_459)
  refine mi_blk okL_law_5 1 (pc' := 466) (lv' := [(7, .int v), (6, .int code), (5, .int 0), (4, .ref (B + 525)), (3, .ref (B + 524)), (2, .ref (B + 518)), (1, .ref B), (0, .ref 0)]) (st' := [.int code]) rfl ?_
  refine mi_if_ne okL_law_5 rfl rfl (fun c_466 => ?_) (fun c_466 => ?_)
  · refine mi_blk okL_law_5 1 (pc' := 1732) (lv' := [(7, .int v), (6, .int code), (5, .int 0), (4, .ref (B + 525)), (3, .ref (B + 524)), (2, .ref (B + 518)), (1, .ref B), (0, .ref 0)]) (st' := []) rfl ?_
    exact mi_WX.locs (lv' := [(5, .int 0), (0, .ref 0)]) (by simp) (l_end hX5)
  · have e3 := hL.out (O := (B + 524)) (by omega) e1 e2 c_466
    refine mi_blk okL_law_5 1 (pc' := 470) (lv' := [(7, .int v), (6, .int code), (5, .int 0), (4, .ref (B + 525)), (3, .ref (B + 524)), (2, .ref (B + 518)), (1, .ref B), (0, .ref 0)]) (st' := [.ref (B + 524)]) rfl ?_
    refine mi_blk okL_law_5 1 (pc' := 471) (lv' := [(7, .int v), (6, .int code), (5, .int 0), (4, .ref (B + 525)), (3, .ref (B + 524)), (2, .ref (B + 518)), (1, .ref B), (0, .ref 0)]) (st' := [.int 0, .ref (B + 524)]) rfl ?_
    refine mo_lld okL_law_5 rfl (show 6 ≤ _ by have := hL.1.z.1; omega) e3.1 e3.2 ?_
    change mi_WX _ pP X kL_law 9 29 294 472 [(7, .int v), (6, .int code), (5, .int 0), (4, .ref (B + 525)), (3, .ref (B + 524)), (2, .ref (B + 518)), (1, .ref B), (0, .ref 0)] [.long v.toInt64] h2 _
    refine mi_blk okL_law_5 3 (pc' := 476) (lv' := [(7, .int v), (6, .int code), (5, .int 0), (4, .ref (B + 525)), (3, .ref (B + 524)), (2, .ref (B + 518)), (1, .ref B), (0, .ref 0)]) (st' := [.int (lg_cmp v.toInt64 v.toInt64)]) rfl ?_
    refine mi_if_eq okL_law_5 rfl rfl (fun c_476 => ?_) (fun c_476 => absurd (lg_cmp_self _) c_476)
    refine mi_blk okL_law_5 1 (pc' := 1732) (lv' := [(7, .int v), (6, .int code), (5, .int 0), (4, .ref (B + 525)), (3, .ref (B + 524)), (2, .ref (B + 518)), (1, .ref B), (0, .ref 0)]) (st' := []) rfl ?_
    exact mi_WX.locs (lv' := [(5, .int 0), (0, .ref 0)]) (by simp) (l_end hX5)
set_option maxHeartbeats 4000000 in
set_option maxRecDepth 100000 in
theorem w_end {X : mi_X} (hX5 : (X 0).1 = 5) (hX1 : mi_X1 X) (hX : mi_X23 X) {B : Nat} {h : mi_H} (hL : LC B h) : mi_W pP X kL_law 9 30 300 484 [(5, .int 0), (4, .ref (B + 525)), (3, .ref (B + 524)), (2, .ref (B + 518)), (1, .ref B), (0, .ref 0)] [] h (fun r _ => r = some (.int 1)) := by
  refine mi_blk okL_law_5 2 (pc' := 486) (lv' := [(5, .int 0), (4, .ref (B + 525)), (3, .ref (B + 524)), (2, .ref (B + 518)), (1, .ref B), (0, .ref 0)]) (st' := [.ref (B + 524), .ref B]) rfl ?_
  obtain ⟨code, v, s1, s2⟩ := a_end (X := X) hX1 hX hL.1 (O := (B + 524)) (show B + 518 ≤ (B + 524) ∧ (B + 524) < h.1 by rw [hL.2.2.2.2.2]; omega) hL.2.2.2.1
  refine mi_callSH okL_law_5 (mc := 29) (ms := 294) (mc' := 1) (ms' := 6) (As := [.ref B, .ref (B + 524)]) (st := []) rfl ch_RL_117 rfl (by decide) (Nat.le_of_ble_eq_true rfl) s1 (fun r h1 q => ?_)
  obtain ⟨rfl, e1⟩ := q
  obtain ⟨w1, c1⟩ := hL.mo (by omega) e1
  change mi_WX _ pP X kL_law 9 29 294 489 [(5, .int 0), (4, .ref (B + 525)), (3, .ref (B + 524)), (2, .ref (B + 518)), (1, .ref B), (0, .ref 0)] [.int code] h1 _
  refine mi_blk okL_law_5 1 (pc' := 491) (lv' := [(6, .int code), (5, .int 0), (4, .ref (B + 525)), (3, .ref (B + 524)), (2, .ref (B + 518)), (1, .ref B), (0, .ref 0)]) (st' := []) rfl ?_
  refine mi_blk okL_law_6 1 (pc' := 492) (lv' := [(6, .int code), (5, .int 0), (4, .ref (B + 525)), (3, .ref (B + 524)), (2, .ref (B + 518)), (1, .ref B), (0, .ref 0)]) (st' := [.ref (B + 518)]) rfl ?_
  refine mi_callV okL_law_6 (mc := 28) (ms := 290) (mc' := 1) (ms' := 4) (b := (B + 518)) (As := []) (st := []) rfl cv_RL_119 rfl (by decide) (show 6 ≤ _ by have := hL.1.z.1; omega) (mo_W.lt w1) c1 rfl (Nat.le_of_ble_eq_true rfl) (s2 (B + 518) h1 w1 c1) (fun r h2 q => ?_)
  obtain ⟨rfl, e2⟩ := q
  obtain ⟨u9, c2⟩ := e2.2.1
  have l2 : B + 518 < h2.1 := Nat.lt_of_lt_of_le (mo_W.lt w1) e2.1
  change mi_WX _ pP X kL_law 9 28 290 495 [(6, .int code), (5, .int 0), (4, .ref (B + 525)), (3, .ref (B + 524)), (2, .ref (B + 518)), (1, .ref B), (0, .ref 0)] [.int v] h2 _
  refine mi_blk okL_law_6 1 (pc' := 497) (lv' := [(7, .int v), (6, .int code), (5, .int 0), (4, .ref (B + 525)), (3, .ref (B + 524)), (2, .ref (B + 518)), (1, .ref B), (0, .ref 0)]) (st' := []) rfl ?_
  refine mi_blk okL_law_6 1 (pc' := 498) (lv' := [(7, .int v), (6, .int code), (5, .int 0), (4, .ref (B + 525)), (3, .ref (B + 524)), (2, .ref (B + 518)), (1, .ref B), (0, .ref 0)]) (st' := [.ref (B + 518)]) rfl ?_
  refine mi_callV okL_law_6 (mc := 28) (ms := 290) (mc' := 0) (ms' := 0) (b := (B + 518)) (As := []) (st := []) rfl cv_RL_97 rfl (by decide) (show 6 ≤ _ by have := hL.1.z.1; omega) l2 c2 rfl (Nat.le_of_ble_eq_true rfl) (m_thrown (show 6 ≤ B + 518 by have := hL.1.z.1; omega) l2 c2) (fun r h9 q => ?_)
  obtain ⟨rfl, e9⟩ := q; have e9 := e9.symm; subst e9
  change mi_WX _ pP X kL_law 9 28 290 501 [(7, .int v), (6, .int code), (5, .int 0), (4, .ref (B + 525)), (3, .ref (B + 524)), (2, .ref (B + 518)), (1, .ref B), (0, .ref 0)] [.int code] h2 _
  refine mi_blk okL_law_6 1 (pc' := 503) (lv' := [(7, .int v), (6, .int code), (5, .int 0), (4, .ref (B + 525)), (3, .ref (B + 524)), (2, .ref (B + 518)), (1, .ref B), (0, .ref 0)]) (st' := [.int code, .int code]) rfl ?_
  refine mi_ic_eq okL_law_6 rfl rfl (fun c_503 => ?_) (fun c_503 => absurd rfl c_503)
  refine mi_blk okL_law_6 1 (pc' := 510) (lv' := [(7, .int v), (6, .int code), (5, .int 0), (4, .ref (B + 525)), (3, .ref (B + 524)), (2, .ref (B + 518)), (1, .ref B), (0, .ref 0)]) (st' := [.int code]) rfl ?_
  refine mi_if_ne okL_law_6 rfl rfl (fun c_510 => ?_) (fun c_510 => ?_)
  · refine mi_blk okL_law_6 1 (pc' := 1732) (lv' := [(7, .int v), (6, .int code), (5, .int 0), (4, .ref (B + 525)), (3, .ref (B + 524)), (2, .ref (B + 518)), (1, .ref B), (0, .ref 0)]) (st' := []) rfl ?_
    exact mi_WX.locs (lv' := [(5, .int 0), (0, .ref 0)]) (by simp) (l_end hX5)
  · have e3 := hL.out (O := (B + 524)) (by omega) e1 e2 c_510
    refine mi_blk okL_law_6 1 (pc' := 514) (lv' := [(7, .int v), (6, .int code), (5, .int 0), (4, .ref (B + 525)), (3, .ref (B + 524)), (2, .ref (B + 518)), (1, .ref B), (0, .ref 0)]) (st' := [.ref (B + 524)]) rfl ?_
    refine mi_blk okL_law_6 1 (pc' := 515) (lv' := [(7, .int v), (6, .int code), (5, .int 0), (4, .ref (B + 525)), (3, .ref (B + 524)), (2, .ref (B + 518)), (1, .ref B), (0, .ref 0)]) (st' := [.int 0, .ref (B + 524)]) rfl ?_
    refine mo_lld okL_law_6 rfl (show 6 ≤ _ by have := hL.1.z.1; omega) e3.1 e3.2 ?_
    change mi_WX _ pP X kL_law 9 28 290 516 [(7, .int v), (6, .int code), (5, .int 0), (4, .ref (B + 525)), (3, .ref (B + 524)), (2, .ref (B + 518)), (1, .ref B), (0, .ref 0)] [.long v.toInt64] h2 _
    refine mi_blk okL_law_6 3 (pc' := 520) (lv' := [(7, .int v), (6, .int code), (5, .int 0), (4, .ref (B + 525)), (3, .ref (B + 524)), (2, .ref (B + 518)), (1, .ref B), (0, .ref 0)]) (st' := [.int (lg_cmp v.toInt64 v.toInt64)]) rfl ?_
    refine mi_if_eq okL_law_6 rfl rfl (fun c_520 => ?_) (fun c_520 => absurd (lg_cmp_self _) c_520)
    refine mi_blk okL_law_6 1 (pc' := 1732) (lv' := [(7, .int v), (6, .int code), (5, .int 0), (4, .ref (B + 525)), (3, .ref (B + 524)), (2, .ref (B + 518)), (1, .ref B), (0, .ref 0)]) (st' := []) rfl ?_
    exact mi_WX.locs (lv' := [(5, .int 0), (0, .ref 0)]) (by simp) (l_end hX5)
set_option maxHeartbeats 4000000 in
set_option maxRecDepth 100000 in
theorem w_file {X : mi_X} (hX5 : (X 0).1 = 5) (hX1 : mi_X1 X) (hX : mi_X23 X) {B : Nat} {h : mi_H} (hL : LC B h) : mi_W pP X kL_law 9 30 300 528 [(5, .int 0), (4, .ref (B + 525)), (3, .ref (B + 524)), (2, .ref (B + 518)), (1, .ref B), (0, .ref 0)] [] h (fun r _ => r = some (.int 1)) := by
  refine mi_blk okL_law_6 5 (pc' := 534) (lv' := [(5, .int 0), (4, .ref (B + 525)), (3, .ref (B + 524)), (2, .ref (B + 518)), (1, .ref B), (0, .ref 0)]) (st' := [.int 1, .ref 0, .ref B]) rfl ?_
  refine lw_ld okL_law_6 hX5 1 rfl rfl (by decide) ?_
  refine mi_blk okL_law_6 4 (pc' := 540) (lv' := [(5, .int 0), (4, .ref (B + 525)), (3, .ref (B + 524)), (2, .ref (B + 518)), (1, .ref B), (0, .ref 0)]) (st' := [.int 2, .ref 0, .int ((X 0).2 1), .ref B]) rfl ?_
  refine lw_ld okL_law_6 hX5 2 rfl rfl (by decide) ?_
  refine mi_blk okL_law_6 4 (pc' := 546) (lv' := [(5, .int 0), (4, .ref (B + 525)), (3, .ref (B + 524)), (2, .ref (B + 518)), (1, .ref B), (0, .ref 0)]) (st' := [.int 3, .ref 0, .int ((X 0).2 2), .int ((X 0).2 1), .ref B]) rfl ?_
  refine lw_ld okL_law_6 hX5 3 rfl rfl (by decide) ?_
  refine mi_blk okL_law_6 1 (pc' := 548) (lv' := [(5, .int 0), (4, .ref (B + 525)), (3, .ref (B + 524)), (2, .ref (B + 518)), (1, .ref B), (0, .ref 0)]) (st' := [.ref (B + 524), .int ((X 0).2 3), .int ((X 0).2 2), .int ((X 0).2 1), .ref B]) rfl ?_
  obtain ⟨code, v, s1, s2⟩ := a_file (X := X) hX1 hX hL.1 (O := (B + 524)) (show B + 518 ≤ (B + 524) ∧ (B + 524) < h.1 by rw [hL.2.2.2.2.2]; omega) hL.2.2.2.1 ((X 0).2 1) ((X 0).2 2) ((X 0).2 3)
  refine mi_callSH okL_law_6 (mc := 29) (ms := 294) (mc' := 1) (ms' := 6) (As := [.ref B, .int ((X 0).2 1), .int ((X 0).2 2), .int ((X 0).2 3), .ref (B + 524)]) (st := []) rfl ch_RL_120 rfl (by decide) (Nat.le_of_ble_eq_true rfl) s1 (fun r h1 q => ?_)
  obtain ⟨rfl, e1⟩ := q
  obtain ⟨w1, c1⟩ := hL.mo (by omega) e1
  change mi_WX _ pP X kL_law 9 29 294 551 [(5, .int 0), (4, .ref (B + 525)), (3, .ref (B + 524)), (2, .ref (B + 518)), (1, .ref B), (0, .ref 0)] [.int code] h1 _
  refine mi_blk okL_law_6 1 (pc' := 553) (lv' := [(6, .int code), (5, .int 0), (4, .ref (B + 525)), (3, .ref (B + 524)), (2, .ref (B + 518)), (1, .ref B), (0, .ref 0)]) (st' := []) rfl ?_
  refine mi_blk okL_law_7 5 (pc' := 559) (lv' := [(6, .int code), (5, .int 0), (4, .ref (B + 525)), (3, .ref (B + 524)), (2, .ref (B + 518)), (1, .ref B), (0, .ref 0)]) (st' := [.int 1, .ref 0, .ref (B + 518)]) rfl ?_
  refine lw_ld okL_law_7 hX5 1 rfl rfl (by decide) ?_
  refine mi_blk okL_law_7 4 (pc' := 565) (lv' := [(6, .int code), (5, .int 0), (4, .ref (B + 525)), (3, .ref (B + 524)), (2, .ref (B + 518)), (1, .ref B), (0, .ref 0)]) (st' := [.int 2, .ref 0, .int ((X 0).2 1), .ref (B + 518)]) rfl ?_
  refine lw_ld okL_law_7 hX5 2 rfl rfl (by decide) ?_
  refine mi_blk okL_law_7 4 (pc' := 571) (lv' := [(6, .int code), (5, .int 0), (4, .ref (B + 525)), (3, .ref (B + 524)), (2, .ref (B + 518)), (1, .ref B), (0, .ref 0)]) (st' := [.int 3, .ref 0, .int ((X 0).2 2), .int ((X 0).2 1), .ref (B + 518)]) rfl ?_
  refine lw_ld okL_law_7 hX5 3 rfl rfl (by decide) ?_
  refine mi_callV okL_law_7 (mc := 29) (ms := 294) (mc' := 0) (ms' := 0) (b := (B + 518)) (As := [.int ((X 0).2 1), .int ((X 0).2 2), .int ((X 0).2 3)]) (st := []) rfl cv_RL_123 rfl (by decide) (show 6 ≤ _ by have := hL.1.z.1; omega) (mo_W.lt w1) c1 rfl (Nat.le_of_ble_eq_true rfl) (s2 (B + 518) h1 w1 c1) (fun r h2 q => ?_)
  obtain ⟨rfl, e2⟩ := q
  obtain ⟨u9, c2⟩ := e2.2.1
  have l2 : B + 518 < h2.1 := Nat.lt_of_lt_of_le (mo_W.lt w1) e2.1
  change mi_WX _ pP X kL_law 9 29 294 575 [(6, .int code), (5, .int 0), (4, .ref (B + 525)), (3, .ref (B + 524)), (2, .ref (B + 518)), (1, .ref B), (0, .ref 0)] [.int v] h2 _
  refine mi_blk okL_law_7 1 (pc' := 577) (lv' := [(7, .int v), (6, .int code), (5, .int 0), (4, .ref (B + 525)), (3, .ref (B + 524)), (2, .ref (B + 518)), (1, .ref B), (0, .ref 0)]) (st' := []) rfl ?_
  refine mi_blk okL_law_7 1 (pc' := 578) (lv' := [(7, .int v), (6, .int code), (5, .int 0), (4, .ref (B + 525)), (3, .ref (B + 524)), (2, .ref (B + 518)), (1, .ref B), (0, .ref 0)]) (st' := [.ref (B + 518)]) rfl ?_
  refine mi_callV okL_law_7 (mc := 29) (ms := 294) (mc' := 0) (ms' := 0) (b := (B + 518)) (As := []) (st := []) rfl cv_RL_97 rfl (by decide) (show 6 ≤ _ by have := hL.1.z.1; omega) l2 c2 rfl (Nat.le_of_ble_eq_true rfl) (m_thrown (show 6 ≤ B + 518 by have := hL.1.z.1; omega) l2 c2) (fun r h9 q => ?_)
  obtain ⟨rfl, e9⟩ := q; have e9 := e9.symm; subst e9
  change mi_WX _ pP X kL_law 9 29 294 581 [(7, .int v), (6, .int code), (5, .int 0), (4, .ref (B + 525)), (3, .ref (B + 524)), (2, .ref (B + 518)), (1, .ref B), (0, .ref 0)] [.int code] h2 _
  refine mi_blk okL_law_7 1 (pc' := 583) (lv' := [(7, .int v), (6, .int code), (5, .int 0), (4, .ref (B + 525)), (3, .ref (B + 524)), (2, .ref (B + 518)), (1, .ref B), (0, .ref 0)]) (st' := [.int code, .int code]) rfl ?_
  refine mi_ic_eq okL_law_7 rfl rfl (fun c_583 => ?_) (fun c_583 => absurd rfl c_583)
  refine mi_blk okL_law_7 1 (pc' := 590) (lv' := [(7, .int v), (6, .int code), (5, .int 0), (4, .ref (B + 525)), (3, .ref (B + 524)), (2, .ref (B + 518)), (1, .ref B), (0, .ref 0)]) (st' := [.int code]) rfl ?_
  refine mi_if_ne okL_law_7 rfl rfl (fun c_590 => ?_) (fun c_590 => ?_)
  · refine mi_blk okL_law_7 1 (pc' := 1732) (lv' := [(7, .int v), (6, .int code), (5, .int 0), (4, .ref (B + 525)), (3, .ref (B + 524)), (2, .ref (B + 518)), (1, .ref B), (0, .ref 0)]) (st' := []) rfl ?_
    exact mi_WX.locs (lv' := [(5, .int 0), (0, .ref 0)]) (by simp) (l_end hX5)
  · have e3 := hL.out (O := (B + 524)) (by omega) e1 e2 c_590
    refine mi_blk okL_law_7 1 (pc' := 594) (lv' := [(7, .int v), (6, .int code), (5, .int 0), (4, .ref (B + 525)), (3, .ref (B + 524)), (2, .ref (B + 518)), (1, .ref B), (0, .ref 0)]) (st' := [.ref (B + 524)]) rfl ?_
    refine mi_blk okL_law_7 1 (pc' := 595) (lv' := [(7, .int v), (6, .int code), (5, .int 0), (4, .ref (B + 525)), (3, .ref (B + 524)), (2, .ref (B + 518)), (1, .ref B), (0, .ref 0)]) (st' := [.int 0, .ref (B + 524)]) rfl ?_
    refine mo_lld okL_law_7 rfl (show 6 ≤ _ by have := hL.1.z.1; omega) e3.1 e3.2 ?_
    change mi_WX _ pP X kL_law 9 29 294 596 [(7, .int v), (6, .int code), (5, .int 0), (4, .ref (B + 525)), (3, .ref (B + 524)), (2, .ref (B + 518)), (1, .ref B), (0, .ref 0)] [.long v.toInt64] h2 _
    refine mi_blk okL_law_7 3 (pc' := 600) (lv' := [(7, .int v), (6, .int code), (5, .int 0), (4, .ref (B + 525)), (3, .ref (B + 524)), (2, .ref (B + 518)), (1, .ref B), (0, .ref 0)]) (st' := [.int (lg_cmp v.toInt64 v.toInt64)]) rfl ?_
    refine mi_if_eq okL_law_7 rfl rfl (fun c_600 => ?_) (fun c_600 => absurd (lg_cmp_self _) c_600)
    refine mi_blk okL_law_7 1 (pc' := 1732) (lv' := [(7, .int v), (6, .int code), (5, .int 0), (4, .ref (B + 525)), (3, .ref (B + 524)), (2, .ref (B + 518)), (1, .ref B), (0, .ref 0)]) (st' := []) rfl ?_
    exact mi_WX.locs (lv' := [(5, .int 0), (0, .ref 0)]) (by simp) (l_end hX5)
set_option maxHeartbeats 4000000 in
set_option maxRecDepth 100000 in
theorem w_scratch {X : mi_X} (hX5 : (X 0).1 = 5) (hX1 : mi_X1 X) (hX : mi_X23 X) {B : Nat} {h : mi_H} (hL : LC B h) : mi_W pP X kL_law 9 30 300 608 [(5, .int 0), (4, .ref (B + 525)), (3, .ref (B + 524)), (2, .ref (B + 518)), (1, .ref B), (0, .ref 0)] [] h (fun r _ => r = some (.int 1)) := by
  refine mi_blk okL_law_7 4 (pc' := 613) (lv' := [(5, .int 0), (4, .ref (B + 525)), (3, .ref (B + 524)), (2, .ref (B + 518)), (1, .ref B), (0, .ref 0)]) (st' := [.int 1, .int 0, .ref 0, .ref B]) rfl ?_
  refine mi_blk okL_law_8 1 (pc' := 614) (lv' := [(5, .int 0), (4, .ref (B + 525)), (3, .ref (B + 524)), (2, .ref (B + 518)), (1, .ref B), (0, .ref 0)]) (st' := [.int 1, .ref 0, .ref B]) rfl ?_
  refine lw_ld okL_law_8 hX5 1 rfl rfl (by decide) ?_
  refine mi_blk okL_law_8 4 (pc' := 620) (lv' := [(5, .int 0), (4, .ref (B + 525)), (3, .ref (B + 524)), (2, .ref (B + 518)), (1, .ref B), (0, .ref 0)]) (st' := [.int 2, .ref 0, .int ((X 0).2 1), .ref B]) rfl ?_
  refine lw_ld okL_law_8 hX5 2 rfl rfl (by decide) ?_
  refine mi_blk okL_law_8 4 (pc' := 626) (lv' := [(5, .int 0), (4, .ref (B + 525)), (3, .ref (B + 524)), (2, .ref (B + 518)), (1, .ref B), (0, .ref 0)]) (st' := [.int 3, .ref 0, .int ((X 0).2 2), .int ((X 0).2 1), .ref B]) rfl ?_
  refine lw_ld okL_law_8 hX5 3 rfl rfl (by decide) ?_
  refine mi_blk okL_law_8 4 (pc' := 632) (lv' := [(5, .int 0), (4, .ref (B + 525)), (3, .ref (B + 524)), (2, .ref (B + 518)), (1, .ref B), (0, .ref 0)]) (st' := [.int 4, .ref 0, .int ((X 0).2 3), .int ((X 0).2 2), .int ((X 0).2 1), .ref B]) rfl ?_
  refine lw_ld okL_law_8 hX5 4 rfl rfl (by decide) ?_
  refine mi_blk okL_law_8 1 (pc' := 634) (lv' := [(5, .int 0), (4, .ref (B + 525)), (3, .ref (B + 524)), (2, .ref (B + 518)), (1, .ref B), (0, .ref 0)]) (st' := [.ref (B + 524), .int ((X 0).2 4), .int ((X 0).2 3), .int ((X 0).2 2), .int ((X 0).2 1), .ref B]) rfl ?_
  obtain ⟨code, v, s1, s2⟩ := a_scratch (X := X) hX1 hX hL.1 (O := (B + 524)) (show B + 518 ≤ (B + 524) ∧ (B + 524) < h.1 by rw [hL.2.2.2.2.2]; omega) hL.2.2.2.1 ((X 0).2 1) ((X 0).2 2) ((X 0).2 3) ((X 0).2 4)
  refine mi_callSH okL_law_8 (mc := 29) (ms := 294) (mc' := 1) (ms' := 6) (As := [.ref B, .int ((X 0).2 1), .int ((X 0).2 2), .int ((X 0).2 3), .int ((X 0).2 4), .ref (B + 524)]) (st := []) rfl ch_RL_124 rfl (by decide) (Nat.le_of_ble_eq_true rfl) s1 (fun r h1 q => ?_)
  obtain ⟨rfl, e1⟩ := q
  obtain ⟨w1, c1⟩ := hL.mo (by omega) e1
  change mi_WX _ pP X kL_law 9 29 294 637 [(5, .int 0), (4, .ref (B + 525)), (3, .ref (B + 524)), (2, .ref (B + 518)), (1, .ref B), (0, .ref 0)] [.int code] h1 _
  refine mi_blk okL_law_8 1 (pc' := 639) (lv' := [(6, .int code), (5, .int 0), (4, .ref (B + 525)), (3, .ref (B + 524)), (2, .ref (B + 518)), (1, .ref B), (0, .ref 0)]) (st' := []) rfl ?_
  refine mi_blk okL_law_8 5 (pc' := 645) (lv' := [(6, .int code), (5, .int 0), (4, .ref (B + 525)), (3, .ref (B + 524)), (2, .ref (B + 518)), (1, .ref B), (0, .ref 0)]) (st' := [.int 1, .ref 0, .ref (B + 518)]) rfl ?_
  refine lw_ld okL_law_8 hX5 1 rfl rfl (by decide) ?_
  refine mi_blk okL_law_8 4 (pc' := 651) (lv' := [(6, .int code), (5, .int 0), (4, .ref (B + 525)), (3, .ref (B + 524)), (2, .ref (B + 518)), (1, .ref B), (0, .ref 0)]) (st' := [.int 2, .ref 0, .int ((X 0).2 1), .ref (B + 518)]) rfl ?_
  refine lw_ld okL_law_8 hX5 2 rfl rfl (by decide) ?_
  refine mi_blk okL_law_8 4 (pc' := 657) (lv' := [(6, .int code), (5, .int 0), (4, .ref (B + 525)), (3, .ref (B + 524)), (2, .ref (B + 518)), (1, .ref B), (0, .ref 0)]) (st' := [.int 3, .ref 0, .int ((X 0).2 2), .int ((X 0).2 1), .ref (B + 518)]) rfl ?_
  refine lw_ld okL_law_8 hX5 3 rfl rfl (by decide) ?_
  refine mi_blk okL_law_8 4 (pc' := 663) (lv' := [(6, .int code), (5, .int 0), (4, .ref (B + 525)), (3, .ref (B + 524)), (2, .ref (B + 518)), (1, .ref B), (0, .ref 0)]) (st' := [.int 4, .ref 0, .int ((X 0).2 3), .int ((X 0).2 2), .int ((X 0).2 1), .ref (B + 518)]) rfl ?_
  refine lw_ld okL_law_9 hX5 4 rfl rfl (by decide) ?_
  refine mi_callV okL_law_9 (mc := 29) (ms := 294) (mc' := 0) (ms' := 0) (b := (B + 518)) (As := [.int ((X 0).2 1), .int ((X 0).2 2), .int ((X 0).2 3), .int ((X 0).2 4)]) (st := []) rfl cv_RL_127 rfl (by decide) (show 6 ≤ _ by have := hL.1.z.1; omega) (mo_W.lt w1) c1 rfl (Nat.le_of_ble_eq_true rfl) (s2 (B + 518) h1 w1 c1) (fun r h2 q => ?_)
  obtain ⟨rfl, e2⟩ := q
  obtain ⟨u9, c2⟩ := e2.2.1
  have l2 : B + 518 < h2.1 := Nat.lt_of_lt_of_le (mo_W.lt w1) e2.1
  change mi_WX _ pP X kL_law 9 29 294 667 [(6, .int code), (5, .int 0), (4, .ref (B + 525)), (3, .ref (B + 524)), (2, .ref (B + 518)), (1, .ref B), (0, .ref 0)] [.int v] h2 _
  refine mi_blk okL_law_9 1 (pc' := 669) (lv' := [(7, .int v), (6, .int code), (5, .int 0), (4, .ref (B + 525)), (3, .ref (B + 524)), (2, .ref (B + 518)), (1, .ref B), (0, .ref 0)]) (st' := []) rfl ?_
  refine mi_blk okL_law_9 1 (pc' := 670) (lv' := [(7, .int v), (6, .int code), (5, .int 0), (4, .ref (B + 525)), (3, .ref (B + 524)), (2, .ref (B + 518)), (1, .ref B), (0, .ref 0)]) (st' := [.ref (B + 518)]) rfl ?_
  refine mi_callV okL_law_9 (mc := 29) (ms := 294) (mc' := 0) (ms' := 0) (b := (B + 518)) (As := []) (st := []) rfl cv_RL_97 rfl (by decide) (show 6 ≤ _ by have := hL.1.z.1; omega) l2 c2 rfl (Nat.le_of_ble_eq_true rfl) (m_thrown (show 6 ≤ B + 518 by have := hL.1.z.1; omega) l2 c2) (fun r h9 q => ?_)
  obtain ⟨rfl, e9⟩ := q; have e9 := e9.symm; subst e9
  change mi_WX _ pP X kL_law 9 29 294 673 [(7, .int v), (6, .int code), (5, .int 0), (4, .ref (B + 525)), (3, .ref (B + 524)), (2, .ref (B + 518)), (1, .ref B), (0, .ref 0)] [.int code] h2 _
  refine mi_blk okL_law_9 1 (pc' := 675) (lv' := [(7, .int v), (6, .int code), (5, .int 0), (4, .ref (B + 525)), (3, .ref (B + 524)), (2, .ref (B + 518)), (1, .ref B), (0, .ref 0)]) (st' := [.int code, .int code]) rfl ?_
  refine mi_ic_eq okL_law_9 rfl rfl (fun c_675 => ?_) (fun c_675 => absurd rfl c_675)
  refine mi_blk okL_law_9 1 (pc' := 682) (lv' := [(7, .int v), (6, .int code), (5, .int 0), (4, .ref (B + 525)), (3, .ref (B + 524)), (2, .ref (B + 518)), (1, .ref B), (0, .ref 0)]) (st' := [.int code]) rfl ?_
  refine mi_if_ne okL_law_9 rfl rfl (fun c_682 => ?_) (fun c_682 => ?_)
  · refine mi_blk okL_law_9 1 (pc' := 1732) (lv' := [(7, .int v), (6, .int code), (5, .int 0), (4, .ref (B + 525)), (3, .ref (B + 524)), (2, .ref (B + 518)), (1, .ref B), (0, .ref 0)]) (st' := []) rfl ?_
    exact mi_WX.locs (lv' := [(5, .int 0), (0, .ref 0)]) (by simp) (l_end hX5)
  · have e3 := hL.out (O := (B + 524)) (by omega) e1 e2 c_682
    refine mi_blk okL_law_9 1 (pc' := 686) (lv' := [(7, .int v), (6, .int code), (5, .int 0), (4, .ref (B + 525)), (3, .ref (B + 524)), (2, .ref (B + 518)), (1, .ref B), (0, .ref 0)]) (st' := [.ref (B + 524)]) rfl ?_
    refine mi_blk okL_law_9 1 (pc' := 687) (lv' := [(7, .int v), (6, .int code), (5, .int 0), (4, .ref (B + 525)), (3, .ref (B + 524)), (2, .ref (B + 518)), (1, .ref B), (0, .ref 0)]) (st' := [.int 0, .ref (B + 524)]) rfl ?_
    refine mo_lld okL_law_9 rfl (show 6 ≤ _ by have := hL.1.z.1; omega) e3.1 e3.2 ?_
    change mi_WX _ pP X kL_law 9 29 294 688 [(7, .int v), (6, .int code), (5, .int 0), (4, .ref (B + 525)), (3, .ref (B + 524)), (2, .ref (B + 518)), (1, .ref B), (0, .ref 0)] [.long v.toInt64] h2 _
    refine mi_blk okL_law_9 3 (pc' := 692) (lv' := [(7, .int v), (6, .int code), (5, .int 0), (4, .ref (B + 525)), (3, .ref (B + 524)), (2, .ref (B + 518)), (1, .ref B), (0, .ref 0)]) (st' := [.int (lg_cmp v.toInt64 v.toInt64)]) rfl ?_
    refine mi_if_eq okL_law_9 rfl rfl (fun c_692 => ?_) (fun c_692 => absurd (lg_cmp_self _) c_692)
    refine mi_blk okL_law_9 1 (pc' := 1732) (lv' := [(7, .int v), (6, .int code), (5, .int 0), (4, .ref (B + 525)), (3, .ref (B + 524)), (2, .ref (B + 518)), (1, .ref B), (0, .ref 0)]) (st' := []) rfl ?_
    exact mi_WX.locs (lv' := [(5, .int 0), (0, .ref 0)]) (by simp) (l_end hX5)
set_option maxHeartbeats 4000000 in
set_option maxRecDepth 100000 in
theorem w_rot {X : mi_X} (hX5 : (X 0).1 = 5) (hX1 : mi_X1 X) (hX : mi_X23 X) {B : Nat} {h : mi_H} (hL : LC B h) : mi_W pP X kL_law 9 30 300 700 [(5, .int 0), (4, .ref (B + 525)), (3, .ref (B + 524)), (2, .ref (B + 518)), (1, .ref B), (0, .ref 0)] [] h (fun r _ => r = some (.int 1)) := by
  refine mi_blk okL_law_9 5 (pc' := 706) (lv' := [(5, .int 0), (4, .ref (B + 525)), (3, .ref (B + 524)), (2, .ref (B + 518)), (1, .ref B), (0, .ref 0)]) (st' := [.int 1, .ref 0, .ref B]) rfl ?_
  refine lw_ld okL_law_9 hX5 1 rfl rfl (by decide) ?_
  refine mi_blk okL_law_9 1 (pc' := 708) (lv' := [(5, .int 0), (4, .ref (B + 525)), (3, .ref (B + 524)), (2, .ref (B + 518)), (1, .ref B), (0, .ref 0)]) (st' := [.ref (B + 524), .int ((X 0).2 1), .ref B]) rfl ?_
  obtain ⟨code, v, s1, s2⟩ := a_rot (X := X) hX1 hX hL.1 (O := (B + 524)) (show B + 518 ≤ (B + 524) ∧ (B + 524) < h.1 by rw [hL.2.2.2.2.2]; omega) hL.2.2.2.1 ((X 0).2 1)
  refine mi_callSH okL_law_9 (mc := 29) (ms := 294) (mc' := 1) (ms' := 6) (As := [.ref B, .int ((X 0).2 1), .ref (B + 524)]) (st := []) rfl ch_RL_128 rfl (by decide) (Nat.le_of_ble_eq_true rfl) s1 (fun r h1 q => ?_)
  obtain ⟨rfl, e1⟩ := q
  obtain ⟨w1, c1⟩ := hL.mo (by omega) e1
  change mi_WX _ pP X kL_law 9 29 294 711 [(5, .int 0), (4, .ref (B + 525)), (3, .ref (B + 524)), (2, .ref (B + 518)), (1, .ref B), (0, .ref 0)] [.int code] h1 _
  refine mi_blk okL_law_9 1 (pc' := 713) (lv' := [(6, .int code), (5, .int 0), (4, .ref (B + 525)), (3, .ref (B + 524)), (2, .ref (B + 518)), (1, .ref B), (0, .ref 0)]) (st' := []) rfl ?_
  refine mi_blk okL_law_9 5 (pc' := 719) (lv' := [(6, .int code), (5, .int 0), (4, .ref (B + 525)), (3, .ref (B + 524)), (2, .ref (B + 518)), (1, .ref B), (0, .ref 0)]) (st' := [.int 1, .ref 0, .ref (B + 518)]) rfl ?_
  refine lw_ld okL_law_9 hX5 1 rfl rfl (by decide) ?_
  refine mi_callV okL_law_9 (mc := 29) (ms := 294) (mc' := 0) (ms' := 0) (b := (B + 518)) (As := [.int ((X 0).2 1)]) (st := []) rfl cv_RL_130 rfl (by decide) (show 6 ≤ _ by have := hL.1.z.1; omega) (mo_W.lt w1) c1 rfl (Nat.le_of_ble_eq_true rfl) (s2 (B + 518) h1 w1 c1) (fun r h2 q => ?_)
  obtain ⟨rfl, e2⟩ := q
  obtain ⟨u9, c2⟩ := e2.2.1
  have l2 : B + 518 < h2.1 := Nat.lt_of_lt_of_le (mo_W.lt w1) e2.1
  change mi_WX _ pP X kL_law 9 29 294 723 [(6, .int code), (5, .int 0), (4, .ref (B + 525)), (3, .ref (B + 524)), (2, .ref (B + 518)), (1, .ref B), (0, .ref 0)] [.int v] h2 _
  refine mi_blk okL_law_9 1 (pc' := 725) (lv' := [(7, .int v), (6, .int code), (5, .int 0), (4, .ref (B + 525)), (3, .ref (B + 524)), (2, .ref (B + 518)), (1, .ref B), (0, .ref 0)]) (st' := []) rfl ?_
  refine mi_blk okL_law_9 1 (pc' := 726) (lv' := [(7, .int v), (6, .int code), (5, .int 0), (4, .ref (B + 525)), (3, .ref (B + 524)), (2, .ref (B + 518)), (1, .ref B), (0, .ref 0)]) (st' := [.ref (B + 518)]) rfl ?_
  refine mi_callV okL_law_9 (mc := 29) (ms := 294) (mc' := 0) (ms' := 0) (b := (B + 518)) (As := []) (st := []) rfl cv_RL_97 rfl (by decide) (show 6 ≤ _ by have := hL.1.z.1; omega) l2 c2 rfl (Nat.le_of_ble_eq_true rfl) (m_thrown (show 6 ≤ B + 518 by have := hL.1.z.1; omega) l2 c2) (fun r h9 q => ?_)
  obtain ⟨rfl, e9⟩ := q; have e9 := e9.symm; subst e9
  change mi_WX _ pP X kL_law 9 29 294 729 [(7, .int v), (6, .int code), (5, .int 0), (4, .ref (B + 525)), (3, .ref (B + 524)), (2, .ref (B + 518)), (1, .ref B), (0, .ref 0)] [.int code] h2 _
  refine mi_blk okL_law_10 1 (pc' := 731) (lv' := [(7, .int v), (6, .int code), (5, .int 0), (4, .ref (B + 525)), (3, .ref (B + 524)), (2, .ref (B + 518)), (1, .ref B), (0, .ref 0)]) (st' := [.int code, .int code]) rfl ?_
  refine mi_ic_eq okL_law_10 rfl rfl (fun c_731 => ?_) (fun c_731 => absurd rfl c_731)
  refine mi_blk okL_law_10 1 (pc' := 738) (lv' := [(7, .int v), (6, .int code), (5, .int 0), (4, .ref (B + 525)), (3, .ref (B + 524)), (2, .ref (B + 518)), (1, .ref B), (0, .ref 0)]) (st' := [.int code]) rfl ?_
  refine mi_if_ne okL_law_10 rfl rfl (fun c_738 => ?_) (fun c_738 => ?_)
  · refine mi_blk okL_law_10 1 (pc' := 1732) (lv' := [(7, .int v), (6, .int code), (5, .int 0), (4, .ref (B + 525)), (3, .ref (B + 524)), (2, .ref (B + 518)), (1, .ref B), (0, .ref 0)]) (st' := []) rfl ?_
    exact mi_WX.locs (lv' := [(5, .int 0), (0, .ref 0)]) (by simp) (l_end hX5)
  · have e3 := hL.out (O := (B + 524)) (by omega) e1 e2 c_738
    refine mi_blk okL_law_10 1 (pc' := 742) (lv' := [(7, .int v), (6, .int code), (5, .int 0), (4, .ref (B + 525)), (3, .ref (B + 524)), (2, .ref (B + 518)), (1, .ref B), (0, .ref 0)]) (st' := [.ref (B + 524)]) rfl ?_
    refine mi_blk okL_law_10 1 (pc' := 743) (lv' := [(7, .int v), (6, .int code), (5, .int 0), (4, .ref (B + 525)), (3, .ref (B + 524)), (2, .ref (B + 518)), (1, .ref B), (0, .ref 0)]) (st' := [.int 0, .ref (B + 524)]) rfl ?_
    refine mo_lld okL_law_10 rfl (show 6 ≤ _ by have := hL.1.z.1; omega) e3.1 e3.2 ?_
    change mi_WX _ pP X kL_law 9 29 294 744 [(7, .int v), (6, .int code), (5, .int 0), (4, .ref (B + 525)), (3, .ref (B + 524)), (2, .ref (B + 518)), (1, .ref B), (0, .ref 0)] [.long v.toInt64] h2 _
    refine mi_blk okL_law_10 3 (pc' := 748) (lv' := [(7, .int v), (6, .int code), (5, .int 0), (4, .ref (B + 525)), (3, .ref (B + 524)), (2, .ref (B + 518)), (1, .ref B), (0, .ref 0)]) (st' := [.int (lg_cmp v.toInt64 v.toInt64)]) rfl ?_
    refine mi_if_eq okL_law_10 rfl rfl (fun c_748 => ?_) (fun c_748 => absurd (lg_cmp_self _) c_748)
    refine mi_blk okL_law_10 1 (pc' := 1732) (lv' := [(7, .int v), (6, .int code), (5, .int 0), (4, .ref (B + 525)), (3, .ref (B + 524)), (2, .ref (B + 518)), (1, .ref B), (0, .ref 0)]) (st' := []) rfl ?_
    exact mi_WX.locs (lv' := [(5, .int 0), (0, .ref 0)]) (by simp) (l_end hX5)
set_option maxHeartbeats 4000000 in
set_option maxRecDepth 100000 in
theorem w_read {X : mi_X} (hX5 : (X 0).1 = 5) (hX1 : mi_X1 X) (hX : mi_X23 X) {B : Nat} {h : mi_H} (hL : LC B h) : mi_W pP X kL_law 9 30 300 810 [(5, .int 0), (4, .ref (B + 525)), (3, .ref (B + 524)), (2, .ref (B + 518)), (1, .ref B), (0, .ref 0)] [] h (fun r _ => r = some (.int 1)) := by
  refine mi_blk okL_law_11 5 (pc' := 816) (lv' := [(5, .int 0), (4, .ref (B + 525)), (3, .ref (B + 524)), (2, .ref (B + 518)), (1, .ref B), (0, .ref 0)]) (st' := [.int 1, .ref 0, .ref B]) rfl ?_
  refine lw_ld okL_law_11 hX5 1 rfl rfl (by decide) ?_
  refine mi_blk okL_law_11 1 (pc' := 818) (lv' := [(5, .int 0), (4, .ref (B + 525)), (3, .ref (B + 524)), (2, .ref (B + 518)), (1, .ref B), (0, .ref 0)]) (st' := [.ref (B + 524), .int ((X 0).2 1), .ref B]) rfl ?_
  obtain ⟨code, v, s1, s2⟩ := a_read (X := X) hX1 hX hL.1 (O := (B + 524)) (show B + 518 ≤ (B + 524) ∧ (B + 524) < h.1 by rw [hL.2.2.2.2.2]; omega) hL.2.2.2.1 ((X 0).2 1)
  refine mi_callSH okL_law_11 (mc := 29) (ms := 294) (mc' := 1) (ms' := 6) (As := [.ref B, .int ((X 0).2 1), .ref (B + 524)]) (st := []) rfl ch_RL_140 rfl (by decide) (Nat.le_of_ble_eq_true rfl) s1 (fun r h1 q => ?_)
  obtain ⟨rfl, e1⟩ := q
  obtain ⟨w1, c1⟩ := hL.mo (by omega) e1
  change mi_WX _ pP X kL_law 9 29 294 821 [(5, .int 0), (4, .ref (B + 525)), (3, .ref (B + 524)), (2, .ref (B + 518)), (1, .ref B), (0, .ref 0)] [.int code] h1 _
  refine mi_blk okL_law_11 1 (pc' := 823) (lv' := [(6, .int code), (5, .int 0), (4, .ref (B + 525)), (3, .ref (B + 524)), (2, .ref (B + 518)), (1, .ref B), (0, .ref 0)]) (st' := []) rfl ?_
  refine mi_blk okL_law_11 5 (pc' := 829) (lv' := [(6, .int code), (5, .int 0), (4, .ref (B + 525)), (3, .ref (B + 524)), (2, .ref (B + 518)), (1, .ref B), (0, .ref 0)]) (st' := [.int 1, .ref 0, .ref (B + 518)]) rfl ?_
  refine lw_ld okL_law_11 hX5 1 rfl rfl (by decide) ?_
  refine mi_callV okL_law_11 (mc := 29) (ms := 294) (mc' := 0) (ms' := 0) (b := (B + 518)) (As := [.int ((X 0).2 1)]) (st := []) rfl cv_RL_142 rfl (by decide) (show 6 ≤ _ by have := hL.1.z.1; omega) (mo_W.lt w1) c1 rfl (Nat.le_of_ble_eq_true rfl) (s2 (B + 518) h1 w1 c1) (fun r h2 q => ?_)
  obtain ⟨rfl, e2⟩ := q
  obtain ⟨u9, c2⟩ := e2.2.1
  have l2 : B + 518 < h2.1 := Nat.lt_of_lt_of_le (mo_W.lt w1) e2.1
  change mi_WX _ pP X kL_law 9 29 294 833 [(6, .int code), (5, .int 0), (4, .ref (B + 525)), (3, .ref (B + 524)), (2, .ref (B + 518)), (1, .ref B), (0, .ref 0)] [.int v] h2 _
  refine mi_blk okL_law_11 1 (pc' := 835) (lv' := [(7, .int v), (6, .int code), (5, .int 0), (4, .ref (B + 525)), (3, .ref (B + 524)), (2, .ref (B + 518)), (1, .ref B), (0, .ref 0)]) (st' := []) rfl ?_
  refine mi_blk okL_law_11 1 (pc' := 836) (lv' := [(7, .int v), (6, .int code), (5, .int 0), (4, .ref (B + 525)), (3, .ref (B + 524)), (2, .ref (B + 518)), (1, .ref B), (0, .ref 0)]) (st' := [.ref (B + 518)]) rfl ?_
  refine mi_callV okL_law_11 (mc := 29) (ms := 294) (mc' := 0) (ms' := 0) (b := (B + 518)) (As := []) (st := []) rfl cv_RL_97 rfl (by decide) (show 6 ≤ _ by have := hL.1.z.1; omega) l2 c2 rfl (Nat.le_of_ble_eq_true rfl) (m_thrown (show 6 ≤ B + 518 by have := hL.1.z.1; omega) l2 c2) (fun r h9 q => ?_)
  obtain ⟨rfl, e9⟩ := q; have e9 := e9.symm; subst e9
  change mi_WX _ pP X kL_law 9 29 294 839 [(7, .int v), (6, .int code), (5, .int 0), (4, .ref (B + 525)), (3, .ref (B + 524)), (2, .ref (B + 518)), (1, .ref B), (0, .ref 0)] [.int code] h2 _
  refine mi_blk okL_law_11 1 (pc' := 841) (lv' := [(7, .int v), (6, .int code), (5, .int 0), (4, .ref (B + 525)), (3, .ref (B + 524)), (2, .ref (B + 518)), (1, .ref B), (0, .ref 0)]) (st' := [.int code, .int code]) rfl ?_
  refine mi_ic_eq okL_law_11 rfl rfl (fun c_841 => ?_) (fun c_841 => absurd rfl c_841)
  refine mi_blk okL_law_11 1 (pc' := 848) (lv' := [(7, .int v), (6, .int code), (5, .int 0), (4, .ref (B + 525)), (3, .ref (B + 524)), (2, .ref (B + 518)), (1, .ref B), (0, .ref 0)]) (st' := [.int code]) rfl ?_
  refine mi_if_ne okL_law_11 rfl rfl (fun c_848 => ?_) (fun c_848 => ?_)
  · refine mi_blk okL_law_12 1 (pc' := 1732) (lv' := [(7, .int v), (6, .int code), (5, .int 0), (4, .ref (B + 525)), (3, .ref (B + 524)), (2, .ref (B + 518)), (1, .ref B), (0, .ref 0)]) (st' := []) rfl ?_
    exact mi_WX.locs (lv' := [(5, .int 0), (0, .ref 0)]) (by simp) (l_end hX5)
  · have e3 := hL.out (O := (B + 524)) (by omega) e1 e2 c_848
    refine mi_blk okL_law_11 1 (pc' := 852) (lv' := [(7, .int v), (6, .int code), (5, .int 0), (4, .ref (B + 525)), (3, .ref (B + 524)), (2, .ref (B + 518)), (1, .ref B), (0, .ref 0)]) (st' := [.ref (B + 524)]) rfl ?_
    refine mi_blk okL_law_11 1 (pc' := 853) (lv' := [(7, .int v), (6, .int code), (5, .int 0), (4, .ref (B + 525)), (3, .ref (B + 524)), (2, .ref (B + 518)), (1, .ref B), (0, .ref 0)]) (st' := [.int 0, .ref (B + 524)]) rfl ?_
    refine mo_lld okL_law_11 rfl (show 6 ≤ _ by have := hL.1.z.1; omega) e3.1 e3.2 ?_
    change mi_WX _ pP X kL_law 9 29 294 854 [(7, .int v), (6, .int code), (5, .int 0), (4, .ref (B + 525)), (3, .ref (B + 524)), (2, .ref (B + 518)), (1, .ref B), (0, .ref 0)] [.long v.toInt64] h2 _
    refine mi_blk okL_law_11 3 (pc' := 858) (lv' := [(7, .int v), (6, .int code), (5, .int 0), (4, .ref (B + 525)), (3, .ref (B + 524)), (2, .ref (B + 518)), (1, .ref B), (0, .ref 0)]) (st' := [.int (lg_cmp v.toInt64 v.toInt64)]) rfl ?_
    refine mi_if_eq okL_law_11 rfl rfl (fun c_858 => ?_) (fun c_858 => absurd (lg_cmp_self _) c_858)
    refine mi_blk okL_law_12 1 (pc' := 1732) (lv' := [(7, .int v), (6, .int code), (5, .int 0), (4, .ref (B + 525)), (3, .ref (B + 524)), (2, .ref (B + 518)), (1, .ref B), (0, .ref 0)]) (st' := []) rfl ?_
    exact mi_WX.locs (lv' := [(5, .int 0), (0, .ref 0)]) (by simp) (l_end hX5)
set_option maxHeartbeats 4000000 in
set_option maxRecDepth 100000 in
theorem w_seek {X : mi_X} (hX5 : (X 0).1 = 5) (hX1 : mi_X1 X) (hX : mi_X23 X) {B : Nat} {h : mi_H} (hL : LC B h) : mi_W pP X kL_law 9 30 300 866 [(5, .int 0), (4, .ref (B + 525)), (3, .ref (B + 524)), (2, .ref (B + 518)), (1, .ref B), (0, .ref 0)] [] h (fun r _ => r = some (.int 1)) := by
  refine mi_blk okL_law_12 5 (pc' := 872) (lv' := [(5, .int 0), (4, .ref (B + 525)), (3, .ref (B + 524)), (2, .ref (B + 518)), (1, .ref B), (0, .ref 0)]) (st' := [.int 1, .ref 0, .ref B]) rfl ?_
  refine lw_ld okL_law_12 hX5 1 rfl rfl (by decide) ?_
  refine mi_blk okL_law_12 1 (pc' := 875) (lv' := [(5, .int 0), (4, .ref (B + 525)), (3, .ref (B + 524)), (2, .ref (B + 518)), (1, .ref B), (0, .ref 0)]) (st' := [.ref (B + 525), .int ((X 0).2 1), .ref B]) rfl ?_
  obtain ⟨code, v, s1, s2⟩ := a_seek (X := X) hX1 hX hL.1 (O := (B + 525)) (show B + 518 ≤ (B + 525) ∧ (B + 525) < h.1 by rw [hL.2.2.2.2.2]; omega) hL.2.2.2.2.1 ((X 0).2 1)
  refine mi_callSH okL_law_12 (mc := 29) (ms := 294) (mc' := 1) (ms' := 6) (As := [.ref B, .int ((X 0).2 1), .ref (B + 525)]) (st := []) rfl ch_RL_143 rfl (by decide) (Nat.le_of_ble_eq_true rfl) s1 (fun r h1 q => ?_)
  obtain ⟨rfl, e1⟩ := q
  obtain ⟨w1, c1⟩ := hL.mo (by omega) e1
  change mi_WX _ pP X kL_law 9 29 294 878 [(5, .int 0), (4, .ref (B + 525)), (3, .ref (B + 524)), (2, .ref (B + 518)), (1, .ref B), (0, .ref 0)] [.int code] h1 _
  refine mi_blk okL_law_12 1 (pc' := 880) (lv' := [(6, .int code), (5, .int 0), (4, .ref (B + 525)), (3, .ref (B + 524)), (2, .ref (B + 518)), (1, .ref B), (0, .ref 0)]) (st' := []) rfl ?_
  refine mi_blk okL_law_12 5 (pc' := 886) (lv' := [(6, .int code), (5, .int 0), (4, .ref (B + 525)), (3, .ref (B + 524)), (2, .ref (B + 518)), (1, .ref B), (0, .ref 0)]) (st' := [.int 1, .ref 0, .ref (B + 518)]) rfl ?_
  refine lw_ld okL_law_12 hX5 1 rfl rfl (by decide) ?_
  refine mi_callV okL_law_12 (mc := 29) (ms := 294) (mc' := 0) (ms' := 0) (b := (B + 518)) (As := [.int ((X 0).2 1)]) (st := []) rfl cv_RL_146 rfl (by decide) (show 6 ≤ _ by have := hL.1.z.1; omega) (mo_W.lt w1) c1 rfl (Nat.le_of_ble_eq_true rfl) (s2 (B + 518) h1 w1 c1) (fun r h2 q => ?_)
  obtain ⟨rfl, e2⟩ := q
  obtain ⟨u9, c2⟩ := e2.2.1
  have l2 : B + 518 < h2.1 := Nat.lt_of_lt_of_le (mo_W.lt w1) e2.1
  change mi_WX _ pP X kL_law 9 29 294 890 [(6, .int code), (5, .int 0), (4, .ref (B + 525)), (3, .ref (B + 524)), (2, .ref (B + 518)), (1, .ref B), (0, .ref 0)] [.double v] h2 _
  refine mi_blk okL_law_12 1 (pc' := 892) (lv' := [(7, .double v), (6, .int code), (5, .int 0), (4, .ref (B + 525)), (3, .ref (B + 524)), (2, .ref (B + 518)), (1, .ref B), (0, .ref 0)]) (st' := []) rfl ?_
  refine mi_blk okL_law_12 1 (pc' := 893) (lv' := [(7, .double v), (6, .int code), (5, .int 0), (4, .ref (B + 525)), (3, .ref (B + 524)), (2, .ref (B + 518)), (1, .ref B), (0, .ref 0)]) (st' := [.ref (B + 518)]) rfl ?_
  refine mi_callV okL_law_12 (mc := 29) (ms := 294) (mc' := 0) (ms' := 0) (b := (B + 518)) (As := []) (st := []) rfl cv_RL_97 rfl (by decide) (show 6 ≤ _ by have := hL.1.z.1; omega) l2 c2 rfl (Nat.le_of_ble_eq_true rfl) (m_thrown (show 6 ≤ B + 518 by have := hL.1.z.1; omega) l2 c2) (fun r h9 q => ?_)
  obtain ⟨rfl, e9⟩ := q; have e9 := e9.symm; subst e9
  change mi_WX _ pP X kL_law 9 29 294 896 [(7, .double v), (6, .int code), (5, .int 0), (4, .ref (B + 525)), (3, .ref (B + 524)), (2, .ref (B + 518)), (1, .ref B), (0, .ref 0)] [.int code] h2 _
  refine mi_blk okL_law_12 1 (pc' := 898) (lv' := [(7, .double v), (6, .int code), (5, .int 0), (4, .ref (B + 525)), (3, .ref (B + 524)), (2, .ref (B + 518)), (1, .ref B), (0, .ref 0)]) (st' := [.int code, .int code]) rfl ?_
  refine mi_ic_eq okL_law_12 rfl rfl (fun c_898 => ?_) (fun c_898 => absurd rfl c_898)
  refine mi_blk okL_law_12 1 (pc' := 905) (lv' := [(7, .double v), (6, .int code), (5, .int 0), (4, .ref (B + 525)), (3, .ref (B + 524)), (2, .ref (B + 518)), (1, .ref B), (0, .ref 0)]) (st' := [.int code]) rfl ?_
  refine mi_if_ne okL_law_12 rfl rfl (fun c_905 => ?_) (fun c_905 => ?_)
  · refine mi_blk okL_law_13 1 (pc' := 1732) (lv' := [(7, .double v), (6, .int code), (5, .int 0), (4, .ref (B + 525)), (3, .ref (B + 524)), (2, .ref (B + 518)), (1, .ref B), (0, .ref 0)]) (st' := []) rfl ?_
    exact mi_WX.locs (lv' := [(5, .int 0), (0, .ref 0)]) (by simp) (l_end hX5)
  · have e3 := hL.out (O := (B + 525)) (by omega) e1 e2 c_905
    refine mi_blk okL_law_12 1 (pc' := 910) (lv' := [(7, .double v), (6, .int code), (5, .int 0), (4, .ref (B + 525)), (3, .ref (B + 524)), (2, .ref (B + 518)), (1, .ref B), (0, .ref 0)]) (st' := [.ref (B + 525)]) rfl ?_
    refine mi_blk okL_law_12 1 (pc' := 911) (lv' := [(7, .double v), (6, .int code), (5, .int 0), (4, .ref (B + 525)), (3, .ref (B + 524)), (2, .ref (B + 518)), (1, .ref B), (0, .ref 0)]) (st' := [.int 0, .ref (B + 525)]) rfl ?_
    refine mo_dld okL_law_12 rfl (show 6 ≤ _ by have := hL.1.z.1; omega) e3.1 e3.2 ?_
    change mi_WX _ pP X kL_law 9 29 294 912 [(7, .double v), (6, .int code), (5, .int 0), (4, .ref (B + 525)), (3, .ref (B + 524)), (2, .ref (B + 518)), (1, .ref B), (0, .ref 0)] [.double v] h2 _
    refine mi_blk okL_law_12 2 (pc' := 915) (lv' := [(7, .double v), (6, .int code), (5, .int 0), (4, .ref (B + 525)), (3, .ref (B + 524)), (2, .ref (B + 518)), (1, .ref B), (0, .ref 0)]) (st' := [.int (Op.cmpValue (FP.dcmp v v) .l)]) rfl ?_
    refine mi_if_eq okL_law_12 rfl rfl (fun c_915 => ?_) (fun c_915 => ?_)
    · refine mi_blk okL_law_13 1 (pc' := 1732) (lv' := [(7, .double v), (6, .int code), (5, .int 0), (4, .ref (B + 525)), (3, .ref (B + 524)), (2, .ref (B + 518)), (1, .ref B), (0, .ref 0)]) (st' := []) rfl ?_
      exact mi_WX.locs (lv' := [(5, .int 0), (0, .ref 0)]) (by simp) (l_end hX5)
    · refine mi_blk okL_law_12 2 (pc' := 921) (lv' := [(7, .double v), (6, .int code), (5, .int 0), (4, .ref (B + 525)), (3, .ref (B + 524)), (2, .ref (B + 518)), (1, .ref B), (0, .ref 0)]) (st' := [.int 0, .ref (B + 525)]) rfl ?_
      refine mo_dld okL_law_12 rfl (show 6 ≤ _ by have := hL.1.z.1; omega) e3.1 e3.2 ?_
      change mi_WX _ pP X kL_law 9 29 294 922 [(7, .double v), (6, .int code), (5, .int 0), (4, .ref (B + 525)), (3, .ref (B + 524)), (2, .ref (B + 518)), (1, .ref B), (0, .ref 0)] [.double v] h2 _
      refine mi_blk okL_law_12 2 (pc' := 925) (lv' := [(7, .double v), (6, .int code), (5, .int 0), (4, .ref (B + 525)), (3, .ref (B + 524)), (2, .ref (B + 518)), (1, .ref B), (0, .ref 0)]) (st' := [.int 0, .ref (B + 525), .double v]) rfl ?_
      refine mo_dld okL_law_12 rfl (show 6 ≤ _ by have := hL.1.z.1; omega) e3.1 e3.2 ?_
      change mi_WX _ pP X kL_law 9 29 294 926 [(7, .double v), (6, .int code), (5, .int 0), (4, .ref (B + 525)), (3, .ref (B + 524)), (2, .ref (B + 518)), (1, .ref B), (0, .ref 0)] [.double v, .double v] h2 _
      refine mi_blk okL_law_13 1 (pc' := 927) (lv' := [(7, .double v), (6, .int code), (5, .int 0), (4, .ref (B + 525)), (3, .ref (B + 524)), (2, .ref (B + 518)), (1, .ref B), (0, .ref 0)]) (st' := [.int (Op.cmpValue (FP.dcmp v v) .l)]) rfl ?_
      refine mi_if_eq okL_law_13 rfl rfl (fun c_927 => absurd c_927 c_915) (fun c_927 => ?_)
      refine mi_blk okL_law_13 3 (pc' := 935) (lv' := [(7, .double v), (6, .int code), (5, .int 0), (4, .ref (B + 525)), (3, .ref (B + 524)), (2, .ref (B + 518)), (1, .ref B), (0, .ref 0)]) (st' := [.int (Op.cmpValue (FP.dcmp v v) .l)]) rfl ?_
      refine mi_if_ne okL_law_13 rfl rfl (fun c_935 => ?_) (fun c_935 => absurd c_935 c_915)
      refine mi_blk okL_law_13 1 (pc' := 1732) (lv' := [(7, .double v), (6, .int code), (5, .int 0), (4, .ref (B + 525)), (3, .ref (B + 524)), (2, .ref (B + 518)), (1, .ref B), (0, .ref 0)]) (st' := []) rfl ?_
      exact mi_WX.locs (lv' := [(5, .int 0), (0, .ref 0)]) (by simp) (l_end hX5)
set_option maxHeartbeats 4000000 in
set_option maxRecDepth 100000 in
theorem w_angle {X : mi_X} (hX5 : (X 0).1 = 5) (hX1 : mi_X1 X) (hX : mi_X23 X) {B : Nat} {h : mi_H} (hL : LC B h) : mi_W pP X kL_law 9 30 300 984 [(5, .int 0), (4, .ref (B + 525)), (3, .ref (B + 524)), (2, .ref (B + 518)), (1, .ref B), (0, .ref 0)] [] h (fun r _ => r = some (.int 1)) := by
  refine mi_blk okL_law_13 5 (pc' := 990) (lv' := [(5, .int 0), (4, .ref (B + 525)), (3, .ref (B + 524)), (2, .ref (B + 518)), (1, .ref B), (0, .ref 0)]) (st' := [.int 1, .ref 0, .ref B]) rfl ?_
  refine lw_ld okL_law_13 hX5 1 rfl rfl (by decide) ?_
  refine mi_blk okL_law_13 1 (pc' := 993) (lv' := [(5, .int 0), (4, .ref (B + 525)), (3, .ref (B + 524)), (2, .ref (B + 518)), (1, .ref B), (0, .ref 0)]) (st' := [.ref (B + 525), .int ((X 0).2 1), .ref B]) rfl ?_
  obtain ⟨code, v, s1, s2⟩ := a_angle (X := X) hX1 hX hL.1 (O := (B + 525)) (show B + 518 ≤ (B + 525) ∧ (B + 525) < h.1 by rw [hL.2.2.2.2.2]; omega) hL.2.2.2.2.1 ((X 0).2 1)
  refine mi_callSH okL_law_13 (mc := 29) (ms := 294) (mc' := 1) (ms' := 6) (As := [.ref B, .int ((X 0).2 1), .ref (B + 525)]) (st := []) rfl ch_RL_152 rfl (by decide) (Nat.le_of_ble_eq_true rfl) s1 (fun r h1 q => ?_)
  obtain ⟨rfl, e1⟩ := q
  obtain ⟨w1, c1⟩ := hL.mo (by omega) e1
  change mi_WX _ pP X kL_law 9 29 294 996 [(5, .int 0), (4, .ref (B + 525)), (3, .ref (B + 524)), (2, .ref (B + 518)), (1, .ref B), (0, .ref 0)] [.int code] h1 _
  refine mi_blk okL_law_13 1 (pc' := 998) (lv' := [(6, .int code), (5, .int 0), (4, .ref (B + 525)), (3, .ref (B + 524)), (2, .ref (B + 518)), (1, .ref B), (0, .ref 0)]) (st' := []) rfl ?_
  refine mi_blk okL_law_13 1 (pc' := 999) (lv' := [(6, .int code), (5, .int 0), (4, .ref (B + 525)), (3, .ref (B + 524)), (2, .ref (B + 518)), (1, .ref B), (0, .ref 0)]) (st' := [.ref (B + 518)]) rfl ?_
  refine mi_blk okL_law_14 1 (pc' := 1000) (lv' := [(6, .int code), (5, .int 0), (4, .ref (B + 525)), (3, .ref (B + 524)), (2, .ref (B + 518)), (1, .ref B), (0, .ref 0)]) (st' := [.ref 0, .ref (B + 518)]) rfl ?_
  refine mi_blk okL_law_14 3 (pc' := 1004) (lv' := [(6, .int code), (5, .int 0), (4, .ref (B + 525)), (3, .ref (B + 524)), (2, .ref (B + 518)), (1, .ref B), (0, .ref 0)]) (st' := [.int 1, .ref 0, .ref (B + 518)]) rfl ?_
  refine lw_ld okL_law_14 hX5 1 rfl rfl (by decide) ?_
  refine mi_callV okL_law_14 (mc := 29) (ms := 294) (mc' := 0) (ms' := 0) (b := (B + 518)) (As := [.int ((X 0).2 1)]) (st := []) rfl cv_RL_154 rfl (by decide) (show 6 ≤ _ by have := hL.1.z.1; omega) (mo_W.lt w1) c1 rfl (Nat.le_of_ble_eq_true rfl) (s2 (B + 518) h1 w1 c1) (fun r h2 q => ?_)
  obtain ⟨rfl, e2⟩ := q
  obtain ⟨u9, c2⟩ := e2.2.1
  have l2 : B + 518 < h2.1 := Nat.lt_of_lt_of_le (mo_W.lt w1) e2.1
  change mi_WX _ pP X kL_law 9 29 294 1008 [(6, .int code), (5, .int 0), (4, .ref (B + 525)), (3, .ref (B + 524)), (2, .ref (B + 518)), (1, .ref B), (0, .ref 0)] [.double v] h2 _
  refine mi_blk okL_law_14 1 (pc' := 1010) (lv' := [(7, .double v), (6, .int code), (5, .int 0), (4, .ref (B + 525)), (3, .ref (B + 524)), (2, .ref (B + 518)), (1, .ref B), (0, .ref 0)]) (st' := []) rfl ?_
  refine mi_blk okL_law_14 1 (pc' := 1011) (lv' := [(7, .double v), (6, .int code), (5, .int 0), (4, .ref (B + 525)), (3, .ref (B + 524)), (2, .ref (B + 518)), (1, .ref B), (0, .ref 0)]) (st' := [.ref (B + 518)]) rfl ?_
  refine mi_callV okL_law_14 (mc := 29) (ms := 294) (mc' := 0) (ms' := 0) (b := (B + 518)) (As := []) (st := []) rfl cv_RL_97 rfl (by decide) (show 6 ≤ _ by have := hL.1.z.1; omega) l2 c2 rfl (Nat.le_of_ble_eq_true rfl) (m_thrown (show 6 ≤ B + 518 by have := hL.1.z.1; omega) l2 c2) (fun r h9 q => ?_)
  obtain ⟨rfl, e9⟩ := q; have e9 := e9.symm; subst e9
  change mi_WX _ pP X kL_law 9 29 294 1014 [(7, .double v), (6, .int code), (5, .int 0), (4, .ref (B + 525)), (3, .ref (B + 524)), (2, .ref (B + 518)), (1, .ref B), (0, .ref 0)] [.int code] h2 _
  refine mi_blk okL_law_14 1 (pc' := 1016) (lv' := [(7, .double v), (6, .int code), (5, .int 0), (4, .ref (B + 525)), (3, .ref (B + 524)), (2, .ref (B + 518)), (1, .ref B), (0, .ref 0)]) (st' := [.int code, .int code]) rfl ?_
  refine mi_ic_eq okL_law_14 rfl rfl (fun c_1016 => ?_) (fun c_1016 => absurd rfl c_1016)
  refine mi_blk okL_law_14 1 (pc' := 1023) (lv' := [(7, .double v), (6, .int code), (5, .int 0), (4, .ref (B + 525)), (3, .ref (B + 524)), (2, .ref (B + 518)), (1, .ref B), (0, .ref 0)]) (st' := [.int code]) rfl ?_
  refine mi_if_ne okL_law_14 rfl rfl (fun c_1023 => ?_) (fun c_1023 => ?_)
  · refine mi_blk okL_law_14 1 (pc' := 1732) (lv' := [(7, .double v), (6, .int code), (5, .int 0), (4, .ref (B + 525)), (3, .ref (B + 524)), (2, .ref (B + 518)), (1, .ref B), (0, .ref 0)]) (st' := []) rfl ?_
    exact mi_WX.locs (lv' := [(5, .int 0), (0, .ref 0)]) (by simp) (l_end hX5)
  · have e3 := hL.out (O := (B + 525)) (by omega) e1 e2 c_1023
    refine mi_blk okL_law_14 1 (pc' := 1028) (lv' := [(7, .double v), (6, .int code), (5, .int 0), (4, .ref (B + 525)), (3, .ref (B + 524)), (2, .ref (B + 518)), (1, .ref B), (0, .ref 0)]) (st' := [.ref (B + 525)]) rfl ?_
    refine mi_blk okL_law_14 1 (pc' := 1029) (lv' := [(7, .double v), (6, .int code), (5, .int 0), (4, .ref (B + 525)), (3, .ref (B + 524)), (2, .ref (B + 518)), (1, .ref B), (0, .ref 0)]) (st' := [.int 0, .ref (B + 525)]) rfl ?_
    refine mo_dld okL_law_14 rfl (show 6 ≤ _ by have := hL.1.z.1; omega) e3.1 e3.2 ?_
    change mi_WX _ pP X kL_law 9 29 294 1030 [(7, .double v), (6, .int code), (5, .int 0), (4, .ref (B + 525)), (3, .ref (B + 524)), (2, .ref (B + 518)), (1, .ref B), (0, .ref 0)] [.double v] h2 _
    refine mi_blk okL_law_14 2 (pc' := 1033) (lv' := [(7, .double v), (6, .int code), (5, .int 0), (4, .ref (B + 525)), (3, .ref (B + 524)), (2, .ref (B + 518)), (1, .ref B), (0, .ref 0)]) (st' := [.int (Op.cmpValue (FP.dcmp v v) .l)]) rfl ?_
    refine mi_if_eq okL_law_14 rfl rfl (fun c_1033 => ?_) (fun c_1033 => ?_)
    · refine mi_blk okL_law_14 1 (pc' := 1732) (lv' := [(7, .double v), (6, .int code), (5, .int 0), (4, .ref (B + 525)), (3, .ref (B + 524)), (2, .ref (B + 518)), (1, .ref B), (0, .ref 0)]) (st' := []) rfl ?_
      exact mi_WX.locs (lv' := [(5, .int 0), (0, .ref 0)]) (by simp) (l_end hX5)
    · refine mi_blk okL_law_14 2 (pc' := 1039) (lv' := [(7, .double v), (6, .int code), (5, .int 0), (4, .ref (B + 525)), (3, .ref (B + 524)), (2, .ref (B + 518)), (1, .ref B), (0, .ref 0)]) (st' := [.int 0, .ref (B + 525)]) rfl ?_
      refine mo_dld okL_law_14 rfl (show 6 ≤ _ by have := hL.1.z.1; omega) e3.1 e3.2 ?_
      change mi_WX _ pP X kL_law 9 29 294 1040 [(7, .double v), (6, .int code), (5, .int 0), (4, .ref (B + 525)), (3, .ref (B + 524)), (2, .ref (B + 518)), (1, .ref B), (0, .ref 0)] [.double v] h2 _
      refine mi_blk okL_law_14 2 (pc' := 1043) (lv' := [(7, .double v), (6, .int code), (5, .int 0), (4, .ref (B + 525)), (3, .ref (B + 524)), (2, .ref (B + 518)), (1, .ref B), (0, .ref 0)]) (st' := [.int 0, .ref (B + 525), .double v]) rfl ?_
      refine mo_dld okL_law_14 rfl (show 6 ≤ _ by have := hL.1.z.1; omega) e3.1 e3.2 ?_
      change mi_WX _ pP X kL_law 9 29 294 1044 [(7, .double v), (6, .int code), (5, .int 0), (4, .ref (B + 525)), (3, .ref (B + 524)), (2, .ref (B + 518)), (1, .ref B), (0, .ref 0)] [.double v, .double v] h2 _
      refine mi_blk okL_law_14 1 (pc' := 1045) (lv' := [(7, .double v), (6, .int code), (5, .int 0), (4, .ref (B + 525)), (3, .ref (B + 524)), (2, .ref (B + 518)), (1, .ref B), (0, .ref 0)]) (st' := [.int (Op.cmpValue (FP.dcmp v v) .l)]) rfl ?_
      refine mi_if_eq okL_law_14 rfl rfl (fun c_1045 => absurd c_1045 c_1033) (fun c_1045 => ?_)
      refine mi_blk okL_law_14 3 (pc' := 1053) (lv' := [(7, .double v), (6, .int code), (5, .int 0), (4, .ref (B + 525)), (3, .ref (B + 524)), (2, .ref (B + 518)), (1, .ref B), (0, .ref 0)]) (st' := [.int (Op.cmpValue (FP.dcmp v v) .l)]) rfl ?_
      refine mi_if_ne okL_law_14 rfl rfl (fun c_1053 => ?_) (fun c_1053 => absurd c_1053 c_1033)
      refine mi_blk okL_law_14 1 (pc' := 1732) (lv' := [(7, .double v), (6, .int code), (5, .int 0), (4, .ref (B + 525)), (3, .ref (B + 524)), (2, .ref (B + 518)), (1, .ref B), (0, .ref 0)]) (st' := []) rfl ?_
      exact mi_WX.locs (lv' := [(5, .int 0), (0, .ref 0)]) (by simp) (l_end hX5)
set_option maxHeartbeats 4000000 in
set_option maxRecDepth 100000 in
theorem w_ofSector {X : mi_X} (hX5 : (X 0).1 = 5) (hX1 : mi_X1 X) (hX : mi_X23 X) {B : Nat} {h : mi_H} (hL : LC B h) : mi_W pP X kL_law 9 30 300 1061 [(5, .int 0), (4, .ref (B + 525)), (3, .ref (B + 524)), (2, .ref (B + 518)), (1, .ref B), (0, .ref 0)] [] h (fun r _ => r = some (.int 1)) := by
  refine mi_blk okL_law_14 4 (pc' := 1066) (lv' := [(5, .int 0), (4, .ref (B + 525)), (3, .ref (B + 524)), (2, .ref (B + 518)), (1, .ref B), (0, .ref 0)]) (st' := [.int 1, .int 0, .ref 0, .ref B]) rfl ?_
  refine mi_blk okL_law_15 1 (pc' := 1067) (lv' := [(5, .int 0), (4, .ref (B + 525)), (3, .ref (B + 524)), (2, .ref (B + 518)), (1, .ref B), (0, .ref 0)]) (st' := [.int 1, .ref 0, .ref B]) rfl ?_
  refine lw_ld okL_law_15 hX5 1 rfl rfl (by decide) ?_
  refine mi_blk okL_law_15 4 (pc' := 1073) (lv' := [(5, .int 0), (4, .ref (B + 525)), (3, .ref (B + 524)), (2, .ref (B + 518)), (1, .ref B), (0, .ref 0)]) (st' := [.int 2, .ref 0, .int ((X 0).2 1), .ref B]) rfl ?_
  refine lw_ld okL_law_15 hX5 2 rfl rfl (by decide) ?_
  refine mi_blk okL_law_15 1 (pc' := 1075) (lv' := [(5, .int 0), (4, .ref (B + 525)), (3, .ref (B + 524)), (2, .ref (B + 518)), (1, .ref B), (0, .ref 0)]) (st' := [.ref (B + 524), .int ((X 0).2 2), .int ((X 0).2 1), .ref B]) rfl ?_
  obtain ⟨code, v, s1, s2⟩ := a_ofSector (X := X) hX1 hX hL.1 (O := (B + 524)) (show B + 518 ≤ (B + 524) ∧ (B + 524) < h.1 by rw [hL.2.2.2.2.2]; omega) hL.2.2.2.1 ((X 0).2 1) ((X 0).2 2)
  refine mi_callSH okL_law_15 (mc := 29) (ms := 294) (mc' := 1) (ms' := 6) (As := [.ref B, .int ((X 0).2 1), .int ((X 0).2 2), .ref (B + 524)]) (st := []) rfl ch_RL_155 rfl (by decide) (Nat.le_of_ble_eq_true rfl) s1 (fun r h1 q => ?_)
  obtain ⟨rfl, e1⟩ := q
  obtain ⟨w1, c1⟩ := hL.mo (by omega) e1
  change mi_WX _ pP X kL_law 9 29 294 1078 [(5, .int 0), (4, .ref (B + 525)), (3, .ref (B + 524)), (2, .ref (B + 518)), (1, .ref B), (0, .ref 0)] [.int code] h1 _
  refine mi_blk okL_law_15 1 (pc' := 1080) (lv' := [(6, .int code), (5, .int 0), (4, .ref (B + 525)), (3, .ref (B + 524)), (2, .ref (B + 518)), (1, .ref B), (0, .ref 0)]) (st' := []) rfl ?_
  refine mi_blk okL_law_15 5 (pc' := 1086) (lv' := [(6, .int code), (5, .int 0), (4, .ref (B + 525)), (3, .ref (B + 524)), (2, .ref (B + 518)), (1, .ref B), (0, .ref 0)]) (st' := [.int 1, .ref 0, .ref (B + 518)]) rfl ?_
  refine lw_ld okL_law_15 hX5 1 rfl rfl (by decide) ?_
  refine mi_blk okL_law_15 4 (pc' := 1092) (lv' := [(6, .int code), (5, .int 0), (4, .ref (B + 525)), (3, .ref (B + 524)), (2, .ref (B + 518)), (1, .ref B), (0, .ref 0)]) (st' := [.int 2, .ref 0, .int ((X 0).2 1), .ref (B + 518)]) rfl ?_
  refine lw_ld okL_law_15 hX5 2 rfl rfl (by decide) ?_
  refine mi_callV okL_law_15 (mc := 27) (ms := 280) (mc' := 2) (ms' := 14) (b := (B + 518)) (As := [.int ((X 0).2 1), .int ((X 0).2 2)]) (st := []) rfl cv_RL_157 rfl (by decide) (show 6 ≤ _ by have := hL.1.z.1; omega) (mo_W.lt w1) c1 rfl (Nat.le_of_ble_eq_true rfl) (s2 (B + 518) h1 w1 c1) (fun r h2 q => ?_)
  obtain ⟨rfl, e2⟩ := q
  obtain ⟨u9, c2⟩ := e2.2.1
  have l2 : B + 518 < h2.1 := Nat.lt_of_lt_of_le (mo_W.lt w1) e2.1
  change mi_WX _ pP X kL_law 9 27 280 1096 [(6, .int code), (5, .int 0), (4, .ref (B + 525)), (3, .ref (B + 524)), (2, .ref (B + 518)), (1, .ref B), (0, .ref 0)] [.int v] h2 _
  refine mi_blk okL_law_15 1 (pc' := 1098) (lv' := [(7, .int v), (6, .int code), (5, .int 0), (4, .ref (B + 525)), (3, .ref (B + 524)), (2, .ref (B + 518)), (1, .ref B), (0, .ref 0)]) (st' := []) rfl ?_
  refine mi_blk okL_law_15 1 (pc' := 1099) (lv' := [(7, .int v), (6, .int code), (5, .int 0), (4, .ref (B + 525)), (3, .ref (B + 524)), (2, .ref (B + 518)), (1, .ref B), (0, .ref 0)]) (st' := [.ref (B + 518)]) rfl ?_
  refine mi_callV okL_law_15 (mc := 27) (ms := 280) (mc' := 0) (ms' := 0) (b := (B + 518)) (As := []) (st := []) rfl cv_RL_97 rfl (by decide) (show 6 ≤ _ by have := hL.1.z.1; omega) l2 c2 rfl (Nat.le_of_ble_eq_true rfl) (m_thrown (show 6 ≤ B + 518 by have := hL.1.z.1; omega) l2 c2) (fun r h9 q => ?_)
  obtain ⟨rfl, e9⟩ := q; have e9 := e9.symm; subst e9
  change mi_WX _ pP X kL_law 9 27 280 1102 [(7, .int v), (6, .int code), (5, .int 0), (4, .ref (B + 525)), (3, .ref (B + 524)), (2, .ref (B + 518)), (1, .ref B), (0, .ref 0)] [.int code] h2 _
  refine mi_blk okL_law_15 1 (pc' := 1104) (lv' := [(7, .int v), (6, .int code), (5, .int 0), (4, .ref (B + 525)), (3, .ref (B + 524)), (2, .ref (B + 518)), (1, .ref B), (0, .ref 0)]) (st' := [.int code, .int code]) rfl ?_
  refine mi_ic_eq okL_law_15 rfl rfl (fun c_1104 => ?_) (fun c_1104 => absurd rfl c_1104)
  refine mi_blk okL_law_15 1 (pc' := 1111) (lv' := [(7, .int v), (6, .int code), (5, .int 0), (4, .ref (B + 525)), (3, .ref (B + 524)), (2, .ref (B + 518)), (1, .ref B), (0, .ref 0)]) (st' := [.int code]) rfl ?_
  refine mi_if_ne okL_law_15 rfl rfl (fun c_1111 => ?_) (fun c_1111 => ?_)
  · refine mi_blk okL_law_16 1 (pc' := 1732) (lv' := [(7, .int v), (6, .int code), (5, .int 0), (4, .ref (B + 525)), (3, .ref (B + 524)), (2, .ref (B + 518)), (1, .ref B), (0, .ref 0)]) (st' := []) rfl ?_
    exact mi_WX.locs (lv' := [(5, .int 0), (0, .ref 0)]) (by simp) (l_end hX5)
  · have e3 := hL.out (O := (B + 524)) (by omega) e1 e2 c_1111
    refine mi_blk okL_law_15 1 (pc' := 1115) (lv' := [(7, .int v), (6, .int code), (5, .int 0), (4, .ref (B + 525)), (3, .ref (B + 524)), (2, .ref (B + 518)), (1, .ref B), (0, .ref 0)]) (st' := [.ref (B + 524)]) rfl ?_
    refine mi_blk okL_law_15 1 (pc' := 1116) (lv' := [(7, .int v), (6, .int code), (5, .int 0), (4, .ref (B + 525)), (3, .ref (B + 524)), (2, .ref (B + 518)), (1, .ref B), (0, .ref 0)]) (st' := [.int 0, .ref (B + 524)]) rfl ?_
    refine mo_lld okL_law_15 rfl (show 6 ≤ _ by have := hL.1.z.1; omega) e3.1 e3.2 ?_
    change mi_WX _ pP X kL_law 9 27 280 1117 [(7, .int v), (6, .int code), (5, .int 0), (4, .ref (B + 525)), (3, .ref (B + 524)), (2, .ref (B + 518)), (1, .ref B), (0, .ref 0)] [.long v.toInt64] h2 _
    refine mi_blk okL_law_15 3 (pc' := 1121) (lv' := [(7, .int v), (6, .int code), (5, .int 0), (4, .ref (B + 525)), (3, .ref (B + 524)), (2, .ref (B + 518)), (1, .ref B), (0, .ref 0)]) (st' := [.int (lg_cmp v.toInt64 v.toInt64)]) rfl ?_
    refine mi_if_eq okL_law_15 rfl rfl (fun c_1121 => ?_) (fun c_1121 => absurd (lg_cmp_self _) c_1121)
    refine mi_blk okL_law_16 1 (pc' := 1732) (lv' := [(7, .int v), (6, .int code), (5, .int 0), (4, .ref (B + 525)), (3, .ref (B + 524)), (2, .ref (B + 518)), (1, .ref B), (0, .ref 0)]) (st' := []) rfl ?_
    exact mi_WX.locs (lv' := [(5, .int 0), (0, .ref 0)]) (by simp) (l_end hX5)
set_option maxHeartbeats 4000000 in
set_option maxRecDepth 100000 in
theorem w_nibbles {X : mi_X} (hX5 : (X 0).1 = 5) (hX1 : mi_X1 X) (hX : mi_X23 X) {B : Nat} {h : mi_H} (hL : LC B h) : mi_W pP X kL_law 9 30 300 1129 [(5, .int 0), (4, .ref (B + 525)), (3, .ref (B + 524)), (2, .ref (B + 518)), (1, .ref B), (0, .ref 0)] [] h (fun r _ => r = some (.int 1)) := by
  refine mi_blk okL_law_16 5 (pc' := 1135) (lv' := [(5, .int 0), (4, .ref (B + 525)), (3, .ref (B + 524)), (2, .ref (B + 518)), (1, .ref B), (0, .ref 0)]) (st' := [.int 1, .ref 0, .ref B]) rfl ?_
  refine lw_ld okL_law_16 hX5 1 rfl rfl (by decide) ?_
  refine mi_blk okL_law_16 4 (pc' := 1141) (lv' := [(5, .int 0), (4, .ref (B + 525)), (3, .ref (B + 524)), (2, .ref (B + 518)), (1, .ref B), (0, .ref 0)]) (st' := [.int 2, .ref 0, .int ((X 0).2 1), .ref B]) rfl ?_
  refine lw_ld okL_law_16 hX5 2 rfl rfl (by decide) ?_
  refine mi_if_eq okL_law_16 rfl rfl (fun c_1142 => ?_) (fun c_1142 => ?_)
  · refine mi_blk okL_law_16 2 (pc' := 1151) (lv' := [(5, .int 0), (4, .ref (B + 525)), (3, .ref (B + 524)), (2, .ref (B + 518)), (1, .ref B), (0, .ref 0)]) (st' := [.ref (B + 524), .int 0, .int ((X 0).2 1), .ref B]) rfl ?_
    obtain ⟨code, v, s1, s2⟩ := a_nibbles_0 (X := X) hX1 hX hL.1 (O := (B + 524)) (show B + 518 ≤ (B + 524) ∧ (B + 524) < h.1 by rw [hL.2.2.2.2.2]; omega) hL.2.2.2.1 ((X 0).2 1)
    refine mi_callSH okL_law_16 (mc := 29) (ms := 294) (mc' := 1) (ms' := 6) (As := [.ref B, .int ((X 0).2 1), .int 0, .ref (B + 524)]) (st := []) rfl ch_RL_158 rfl (by decide) (Nat.le_of_ble_eq_true rfl) s1 (fun r h1 q => ?_)
    obtain ⟨rfl, e1⟩ := q
    obtain ⟨w1, c1⟩ := hL.mo (by omega) e1
    change mi_WX _ pP X kL_law 9 29 294 1154 [(5, .int 0), (4, .ref (B + 525)), (3, .ref (B + 524)), (2, .ref (B + 518)), (1, .ref B), (0, .ref 0)] [.int code] h1 _
    refine mi_blk okL_law_16 1 (pc' := 1156) (lv' := [(6, .int code), (5, .int 0), (4, .ref (B + 525)), (3, .ref (B + 524)), (2, .ref (B + 518)), (1, .ref B), (0, .ref 0)]) (st' := []) rfl ?_
    refine mi_blk okL_law_16 5 (pc' := 1162) (lv' := [(6, .int code), (5, .int 0), (4, .ref (B + 525)), (3, .ref (B + 524)), (2, .ref (B + 518)), (1, .ref B), (0, .ref 0)]) (st' := [.int 1, .ref 0, .ref (B + 518)]) rfl ?_
    refine lw_ld okL_law_16 hX5 1 rfl rfl (by decide) ?_
    refine mi_blk okL_law_16 4 (pc' := 1168) (lv' := [(6, .int code), (5, .int 0), (4, .ref (B + 525)), (3, .ref (B + 524)), (2, .ref (B + 518)), (1, .ref B), (0, .ref 0)]) (st' := [.int 2, .ref 0, .int ((X 0).2 1), .ref (B + 518)]) rfl ?_
    refine lw_ld okL_law_16 hX5 2 rfl rfl (by decide) ?_
    refine mi_if_eq okL_law_16 rfl rfl (fun c_1169 => ?_) (fun c_1169 => absurd c_1142 c_1169)
    refine mi_blk okL_law_16 1 (pc' := 1177) (lv' := [(6, .int code), (5, .int 0), (4, .ref (B + 525)), (3, .ref (B + 524)), (2, .ref (B + 518)), (1, .ref B), (0, .ref 0)]) (st' := [.int 0, .int ((X 0).2 1), .ref (B + 518)]) rfl ?_
    refine mi_callV okL_law_16 (mc := 29) (ms := 294) (mc' := 0) (ms' := 0) (b := (B + 518)) (As := [.int ((X 0).2 1), .int 0]) (st := []) rfl cv_RL_161 rfl (by decide) (show 6 ≤ _ by have := hL.1.z.1; omega) (mo_W.lt w1) c1 rfl (Nat.le_of_ble_eq_true rfl) (s2 (B + 518) h1 w1 c1) (fun r h2 q => ?_)
    obtain ⟨rfl, e2⟩ := q
    obtain ⟨u9, c2⟩ := e2.2.1
    have l2 : B + 518 < h2.1 := Nat.lt_of_lt_of_le (mo_W.lt w1) e2.1
    change mi_WX _ pP X kL_law 9 29 294 1180 [(6, .int code), (5, .int 0), (4, .ref (B + 525)), (3, .ref (B + 524)), (2, .ref (B + 518)), (1, .ref B), (0, .ref 0)] [.long v] h2 _
    refine mi_blk okL_law_16 1 (pc' := 1182) (lv' := [(7, .long v), (6, .int code), (5, .int 0), (4, .ref (B + 525)), (3, .ref (B + 524)), (2, .ref (B + 518)), (1, .ref B), (0, .ref 0)]) (st' := []) rfl ?_
    refine mi_blk okL_law_16 1 (pc' := 1183) (lv' := [(7, .long v), (6, .int code), (5, .int 0), (4, .ref (B + 525)), (3, .ref (B + 524)), (2, .ref (B + 518)), (1, .ref B), (0, .ref 0)]) (st' := [.ref (B + 518)]) rfl ?_
    refine mi_callV okL_law_16 (mc := 29) (ms := 294) (mc' := 0) (ms' := 0) (b := (B + 518)) (As := []) (st := []) rfl cv_RL_97 rfl (by decide) (show 6 ≤ _ by have := hL.1.z.1; omega) l2 c2 rfl (Nat.le_of_ble_eq_true rfl) (m_thrown (show 6 ≤ B + 518 by have := hL.1.z.1; omega) l2 c2) (fun r h9 q => ?_)
    obtain ⟨rfl, e9⟩ := q; have e9 := e9.symm; subst e9
    change mi_WX _ pP X kL_law 9 29 294 1186 [(7, .long v), (6, .int code), (5, .int 0), (4, .ref (B + 525)), (3, .ref (B + 524)), (2, .ref (B + 518)), (1, .ref B), (0, .ref 0)] [.int code] h2 _
    refine mi_blk okL_law_16 1 (pc' := 1188) (lv' := [(7, .long v), (6, .int code), (5, .int 0), (4, .ref (B + 525)), (3, .ref (B + 524)), (2, .ref (B + 518)), (1, .ref B), (0, .ref 0)]) (st' := [.int code, .int code]) rfl ?_
    refine mi_ic_eq okL_law_16 rfl rfl (fun c_1188 => ?_) (fun c_1188 => absurd rfl c_1188)
    refine mi_blk okL_law_17 1 (pc' := 1195) (lv' := [(7, .long v), (6, .int code), (5, .int 0), (4, .ref (B + 525)), (3, .ref (B + 524)), (2, .ref (B + 518)), (1, .ref B), (0, .ref 0)]) (st' := [.int code]) rfl ?_
    refine mi_if_ne okL_law_17 rfl rfl (fun c_1195 => ?_) (fun c_1195 => ?_)
    · refine mi_blk okL_law_17 1 (pc' := 1732) (lv' := [(7, .long v), (6, .int code), (5, .int 0), (4, .ref (B + 525)), (3, .ref (B + 524)), (2, .ref (B + 518)), (1, .ref B), (0, .ref 0)]) (st' := []) rfl ?_
      exact mi_WX.locs (lv' := [(5, .int 0), (0, .ref 0)]) (by simp) (l_end hX5)
    · have e3 := hL.out (O := (B + 524)) (by omega) e1 e2 c_1195
      refine mi_blk okL_law_17 1 (pc' := 1199) (lv' := [(7, .long v), (6, .int code), (5, .int 0), (4, .ref (B + 525)), (3, .ref (B + 524)), (2, .ref (B + 518)), (1, .ref B), (0, .ref 0)]) (st' := [.ref (B + 524)]) rfl ?_
      refine mi_blk okL_law_17 1 (pc' := 1200) (lv' := [(7, .long v), (6, .int code), (5, .int 0), (4, .ref (B + 525)), (3, .ref (B + 524)), (2, .ref (B + 518)), (1, .ref B), (0, .ref 0)]) (st' := [.int 0, .ref (B + 524)]) rfl ?_
      refine mo_lld okL_law_17 rfl (show 6 ≤ _ by have := hL.1.z.1; omega) e3.1 e3.2 ?_
      change mi_WX _ pP X kL_law 9 29 294 1201 [(7, .long v), (6, .int code), (5, .int 0), (4, .ref (B + 525)), (3, .ref (B + 524)), (2, .ref (B + 518)), (1, .ref B), (0, .ref 0)] [.long v] h2 _
      refine mi_blk okL_law_17 2 (pc' := 1204) (lv' := [(7, .long v), (6, .int code), (5, .int 0), (4, .ref (B + 525)), (3, .ref (B + 524)), (2, .ref (B + 518)), (1, .ref B), (0, .ref 0)]) (st' := [.int (lg_cmp v v)]) rfl ?_
      refine mi_if_eq okL_law_17 rfl rfl (fun c_1204 => ?_) (fun c_1204 => absurd (lg_cmp_self _) c_1204)
      refine mi_blk okL_law_17 1 (pc' := 1732) (lv' := [(7, .long v), (6, .int code), (5, .int 0), (4, .ref (B + 525)), (3, .ref (B + 524)), (2, .ref (B + 518)), (1, .ref B), (0, .ref 0)]) (st' := []) rfl ?_
      exact mi_WX.locs (lv' := [(5, .int 0), (0, .ref 0)]) (by simp) (l_end hX5)
  · refine mi_blk okL_law_16 3 (pc' := 1151) (lv' := [(5, .int 0), (4, .ref (B + 525)), (3, .ref (B + 524)), (2, .ref (B + 518)), (1, .ref B), (0, .ref 0)]) (st' := [.ref (B + 524), .int 1, .int ((X 0).2 1), .ref B]) rfl ?_
    obtain ⟨code, v, s1, s2⟩ := a_nibbles_1 (X := X) hX1 hX hL.1 (O := (B + 524)) (show B + 518 ≤ (B + 524) ∧ (B + 524) < h.1 by rw [hL.2.2.2.2.2]; omega) hL.2.2.2.1 ((X 0).2 1)
    refine mi_callSH okL_law_16 (mc := 29) (ms := 294) (mc' := 1) (ms' := 6) (As := [.ref B, .int ((X 0).2 1), .int 1, .ref (B + 524)]) (st := []) rfl ch_RL_158 rfl (by decide) (Nat.le_of_ble_eq_true rfl) s1 (fun r h1 q => ?_)
    obtain ⟨rfl, e1⟩ := q
    obtain ⟨w1, c1⟩ := hL.mo (by omega) e1
    change mi_WX _ pP X kL_law 9 29 294 1154 [(5, .int 0), (4, .ref (B + 525)), (3, .ref (B + 524)), (2, .ref (B + 518)), (1, .ref B), (0, .ref 0)] [.int code] h1 _
    refine mi_blk okL_law_16 1 (pc' := 1156) (lv' := [(6, .int code), (5, .int 0), (4, .ref (B + 525)), (3, .ref (B + 524)), (2, .ref (B + 518)), (1, .ref B), (0, .ref 0)]) (st' := []) rfl ?_
    refine mi_blk okL_law_16 5 (pc' := 1162) (lv' := [(6, .int code), (5, .int 0), (4, .ref (B + 525)), (3, .ref (B + 524)), (2, .ref (B + 518)), (1, .ref B), (0, .ref 0)]) (st' := [.int 1, .ref 0, .ref (B + 518)]) rfl ?_
    refine lw_ld okL_law_16 hX5 1 rfl rfl (by decide) ?_
    refine mi_blk okL_law_16 4 (pc' := 1168) (lv' := [(6, .int code), (5, .int 0), (4, .ref (B + 525)), (3, .ref (B + 524)), (2, .ref (B + 518)), (1, .ref B), (0, .ref 0)]) (st' := [.int 2, .ref 0, .int ((X 0).2 1), .ref (B + 518)]) rfl ?_
    refine lw_ld okL_law_16 hX5 2 rfl rfl (by decide) ?_
    refine mi_if_eq okL_law_16 rfl rfl (fun c_1169 => absurd c_1169 c_1142) (fun c_1169 => ?_)
    refine mi_blk okL_law_16 2 (pc' := 1177) (lv' := [(6, .int code), (5, .int 0), (4, .ref (B + 525)), (3, .ref (B + 524)), (2, .ref (B + 518)), (1, .ref B), (0, .ref 0)]) (st' := [.int 1, .int ((X 0).2 1), .ref (B + 518)]) rfl ?_
    refine mi_callV okL_law_16 (mc := 29) (ms := 294) (mc' := 0) (ms' := 0) (b := (B + 518)) (As := [.int ((X 0).2 1), .int 1]) (st := []) rfl cv_RL_161 rfl (by decide) (show 6 ≤ _ by have := hL.1.z.1; omega) (mo_W.lt w1) c1 rfl (Nat.le_of_ble_eq_true rfl) (s2 (B + 518) h1 w1 c1) (fun r h2 q => ?_)
    obtain ⟨rfl, e2⟩ := q
    obtain ⟨u9, c2⟩ := e2.2.1
    have l2 : B + 518 < h2.1 := Nat.lt_of_lt_of_le (mo_W.lt w1) e2.1
    change mi_WX _ pP X kL_law 9 29 294 1180 [(6, .int code), (5, .int 0), (4, .ref (B + 525)), (3, .ref (B + 524)), (2, .ref (B + 518)), (1, .ref B), (0, .ref 0)] [.long v] h2 _
    refine mi_blk okL_law_16 1 (pc' := 1182) (lv' := [(7, .long v), (6, .int code), (5, .int 0), (4, .ref (B + 525)), (3, .ref (B + 524)), (2, .ref (B + 518)), (1, .ref B), (0, .ref 0)]) (st' := []) rfl ?_
    refine mi_blk okL_law_16 1 (pc' := 1183) (lv' := [(7, .long v), (6, .int code), (5, .int 0), (4, .ref (B + 525)), (3, .ref (B + 524)), (2, .ref (B + 518)), (1, .ref B), (0, .ref 0)]) (st' := [.ref (B + 518)]) rfl ?_
    refine mi_callV okL_law_16 (mc := 29) (ms := 294) (mc' := 0) (ms' := 0) (b := (B + 518)) (As := []) (st := []) rfl cv_RL_97 rfl (by decide) (show 6 ≤ _ by have := hL.1.z.1; omega) l2 c2 rfl (Nat.le_of_ble_eq_true rfl) (m_thrown (show 6 ≤ B + 518 by have := hL.1.z.1; omega) l2 c2) (fun r h9 q => ?_)
    obtain ⟨rfl, e9⟩ := q; have e9 := e9.symm; subst e9
    change mi_WX _ pP X kL_law 9 29 294 1186 [(7, .long v), (6, .int code), (5, .int 0), (4, .ref (B + 525)), (3, .ref (B + 524)), (2, .ref (B + 518)), (1, .ref B), (0, .ref 0)] [.int code] h2 _
    refine mi_blk okL_law_16 1 (pc' := 1188) (lv' := [(7, .long v), (6, .int code), (5, .int 0), (4, .ref (B + 525)), (3, .ref (B + 524)), (2, .ref (B + 518)), (1, .ref B), (0, .ref 0)]) (st' := [.int code, .int code]) rfl ?_
    refine mi_ic_eq okL_law_16 rfl rfl (fun c_1188 => ?_) (fun c_1188 => absurd rfl c_1188)
    refine mi_blk okL_law_17 1 (pc' := 1195) (lv' := [(7, .long v), (6, .int code), (5, .int 0), (4, .ref (B + 525)), (3, .ref (B + 524)), (2, .ref (B + 518)), (1, .ref B), (0, .ref 0)]) (st' := [.int code]) rfl ?_
    refine mi_if_ne okL_law_17 rfl rfl (fun c_1195 => ?_) (fun c_1195 => ?_)
    · refine mi_blk okL_law_17 1 (pc' := 1732) (lv' := [(7, .long v), (6, .int code), (5, .int 0), (4, .ref (B + 525)), (3, .ref (B + 524)), (2, .ref (B + 518)), (1, .ref B), (0, .ref 0)]) (st' := []) rfl ?_
      exact mi_WX.locs (lv' := [(5, .int 0), (0, .ref 0)]) (by simp) (l_end hX5)
    · have e3 := hL.out (O := (B + 524)) (by omega) e1 e2 c_1195
      refine mi_blk okL_law_17 1 (pc' := 1199) (lv' := [(7, .long v), (6, .int code), (5, .int 0), (4, .ref (B + 525)), (3, .ref (B + 524)), (2, .ref (B + 518)), (1, .ref B), (0, .ref 0)]) (st' := [.ref (B + 524)]) rfl ?_
      refine mi_blk okL_law_17 1 (pc' := 1200) (lv' := [(7, .long v), (6, .int code), (5, .int 0), (4, .ref (B + 525)), (3, .ref (B + 524)), (2, .ref (B + 518)), (1, .ref B), (0, .ref 0)]) (st' := [.int 0, .ref (B + 524)]) rfl ?_
      refine mo_lld okL_law_17 rfl (show 6 ≤ _ by have := hL.1.z.1; omega) e3.1 e3.2 ?_
      change mi_WX _ pP X kL_law 9 29 294 1201 [(7, .long v), (6, .int code), (5, .int 0), (4, .ref (B + 525)), (3, .ref (B + 524)), (2, .ref (B + 518)), (1, .ref B), (0, .ref 0)] [.long v] h2 _
      refine mi_blk okL_law_17 2 (pc' := 1204) (lv' := [(7, .long v), (6, .int code), (5, .int 0), (4, .ref (B + 525)), (3, .ref (B + 524)), (2, .ref (B + 518)), (1, .ref B), (0, .ref 0)]) (st' := [.int (lg_cmp v v)]) rfl ?_
      refine mi_if_eq okL_law_17 rfl rfl (fun c_1204 => ?_) (fun c_1204 => absurd (lg_cmp_self _) c_1204)
      refine mi_blk okL_law_17 1 (pc' := 1732) (lv' := [(7, .long v), (6, .int code), (5, .int 0), (4, .ref (B + 525)), (3, .ref (B + 524)), (2, .ref (B + 518)), (1, .ref B), (0, .ref 0)]) (st' := []) rfl ?_
      exact mi_WX.locs (lv' := [(5, .int 0), (0, .ref 0)]) (by simp) (l_end hX5)
set_option maxHeartbeats 4000000 in
set_option maxRecDepth 100000 in
theorem w_place {X : mi_X} (hX5 : (X 0).1 = 5) (hX1 : mi_X1 X) (hX : mi_X23 X) {B : Nat} {h : mi_H} (hL : LC B h) : mi_W pP X kL_law 9 30 300 1212 [(5, .int 0), (4, .ref (B + 525)), (3, .ref (B + 524)), (2, .ref (B + 518)), (1, .ref B), (0, .ref 0)] [] h (fun r _ => r = some (.int 1)) := by
  refine mi_blk okL_law_17 5 (pc' := 1218) (lv' := [(5, .int 0), (4, .ref (B + 525)), (3, .ref (B + 524)), (2, .ref (B + 518)), (1, .ref B), (0, .ref 0)]) (st' := [.int 1, .ref 0, .ref B]) rfl ?_
  refine lw_ld okL_law_17 hX5 1 rfl rfl (by decide) ?_
  refine mi_blk okL_law_17 4 (pc' := 1224) (lv' := [(5, .int 0), (4, .ref (B + 525)), (3, .ref (B + 524)), (2, .ref (B + 518)), (1, .ref B), (0, .ref 0)]) (st' := [.int 2, .ref 0, .int ((X 0).2 1), .ref B]) rfl ?_
  refine lw_ld okL_law_17 hX5 2 rfl rfl (by decide) ?_
  refine mi_blk okL_law_17 1 (pc' := 1226) (lv' := [(5, .int 0), (4, .ref (B + 525)), (3, .ref (B + 524)), (2, .ref (B + 518)), (1, .ref B), (0, .ref 0)]) (st' := [.ref (B + 524), .int ((X 0).2 2), .int ((X 0).2 1), .ref B]) rfl ?_
  obtain ⟨code, v, s1, s2⟩ := a_place (X := X) hX1 hX hL.1 (O := (B + 524)) (show B + 518 ≤ (B + 524) ∧ (B + 524) < h.1 by rw [hL.2.2.2.2.2]; omega) hL.2.2.2.1 ((X 0).2 1) ((X 0).2 2)
  refine mi_callSH okL_law_17 (mc := 29) (ms := 294) (mc' := 1) (ms' := 6) (As := [.ref B, .int ((X 0).2 1), .int ((X 0).2 2), .ref (B + 524)]) (st := []) rfl ch_RL_162 rfl (by decide) (Nat.le_of_ble_eq_true rfl) s1 (fun r h1 q => ?_)
  obtain ⟨rfl, e1⟩ := q
  obtain ⟨w1, c1⟩ := hL.mo (by omega) e1
  change mi_WX _ pP X kL_law 9 29 294 1229 [(5, .int 0), (4, .ref (B + 525)), (3, .ref (B + 524)), (2, .ref (B + 518)), (1, .ref B), (0, .ref 0)] [.int code] h1 _
  refine mi_blk okL_law_17 1 (pc' := 1231) (lv' := [(6, .int code), (5, .int 0), (4, .ref (B + 525)), (3, .ref (B + 524)), (2, .ref (B + 518)), (1, .ref B), (0, .ref 0)]) (st' := []) rfl ?_
  refine mi_blk okL_law_17 5 (pc' := 1237) (lv' := [(6, .int code), (5, .int 0), (4, .ref (B + 525)), (3, .ref (B + 524)), (2, .ref (B + 518)), (1, .ref B), (0, .ref 0)]) (st' := [.int 1, .ref 0, .ref (B + 518)]) rfl ?_
  refine lw_ld okL_law_17 hX5 1 rfl rfl (by decide) ?_
  refine mi_blk okL_law_17 4 (pc' := 1243) (lv' := [(6, .int code), (5, .int 0), (4, .ref (B + 525)), (3, .ref (B + 524)), (2, .ref (B + 518)), (1, .ref B), (0, .ref 0)]) (st' := [.int 2, .ref 0, .int ((X 0).2 1), .ref (B + 518)]) rfl ?_
  refine lw_ld okL_law_17 hX5 2 rfl rfl (by decide) ?_
  refine mi_callV okL_law_17 (mc := 29) (ms := 294) (mc' := 0) (ms' := 0) (b := (B + 518)) (As := [.int ((X 0).2 1), .int ((X 0).2 2)]) (st := []) rfl cv_RL_164 rfl (by decide) (show 6 ≤ _ by have := hL.1.z.1; omega) (mo_W.lt w1) c1 rfl (Nat.le_of_ble_eq_true rfl) (s2 (B + 518) h1 w1 c1) (fun r h2 q => ?_)
  obtain ⟨rfl, e2⟩ := q
  obtain ⟨u9, c2⟩ := e2.2.1
  have l2 : B + 518 < h2.1 := Nat.lt_of_lt_of_le (mo_W.lt w1) e2.1
  change mi_WX _ pP X kL_law 9 29 294 1247 [(6, .int code), (5, .int 0), (4, .ref (B + 525)), (3, .ref (B + 524)), (2, .ref (B + 518)), (1, .ref B), (0, .ref 0)] [.int v] h2 _
  refine mi_blk okL_law_17 1 (pc' := 1249) (lv' := [(7, .int v), (6, .int code), (5, .int 0), (4, .ref (B + 525)), (3, .ref (B + 524)), (2, .ref (B + 518)), (1, .ref B), (0, .ref 0)]) (st' := []) rfl ?_
  refine mi_blk okL_law_18 1 (pc' := 1250) (lv' := [(7, .int v), (6, .int code), (5, .int 0), (4, .ref (B + 525)), (3, .ref (B + 524)), (2, .ref (B + 518)), (1, .ref B), (0, .ref 0)]) (st' := [.ref (B + 518)]) rfl ?_
  refine mi_callV okL_law_18 (mc := 29) (ms := 294) (mc' := 0) (ms' := 0) (b := (B + 518)) (As := []) (st := []) rfl cv_RL_97 rfl (by decide) (show 6 ≤ _ by have := hL.1.z.1; omega) l2 c2 rfl (Nat.le_of_ble_eq_true rfl) (m_thrown (show 6 ≤ B + 518 by have := hL.1.z.1; omega) l2 c2) (fun r h9 q => ?_)
  obtain ⟨rfl, e9⟩ := q; have e9 := e9.symm; subst e9
  change mi_WX _ pP X kL_law 9 29 294 1253 [(7, .int v), (6, .int code), (5, .int 0), (4, .ref (B + 525)), (3, .ref (B + 524)), (2, .ref (B + 518)), (1, .ref B), (0, .ref 0)] [.int code] h2 _
  refine mi_blk okL_law_18 1 (pc' := 1255) (lv' := [(7, .int v), (6, .int code), (5, .int 0), (4, .ref (B + 525)), (3, .ref (B + 524)), (2, .ref (B + 518)), (1, .ref B), (0, .ref 0)]) (st' := [.int code, .int code]) rfl ?_
  refine mi_ic_eq okL_law_18 rfl rfl (fun c_1255 => ?_) (fun c_1255 => absurd rfl c_1255)
  refine mi_blk okL_law_18 1 (pc' := 1262) (lv' := [(7, .int v), (6, .int code), (5, .int 0), (4, .ref (B + 525)), (3, .ref (B + 524)), (2, .ref (B + 518)), (1, .ref B), (0, .ref 0)]) (st' := [.int code]) rfl ?_
  refine mi_if_ne okL_law_18 rfl rfl (fun c_1262 => ?_) (fun c_1262 => ?_)
  · refine mi_blk okL_law_18 1 (pc' := 1732) (lv' := [(7, .int v), (6, .int code), (5, .int 0), (4, .ref (B + 525)), (3, .ref (B + 524)), (2, .ref (B + 518)), (1, .ref B), (0, .ref 0)]) (st' := []) rfl ?_
    exact mi_WX.locs (lv' := [(5, .int 0), (0, .ref 0)]) (by simp) (l_end hX5)
  · have e3 := hL.out (O := (B + 524)) (by omega) e1 e2 c_1262
    refine mi_blk okL_law_18 1 (pc' := 1266) (lv' := [(7, .int v), (6, .int code), (5, .int 0), (4, .ref (B + 525)), (3, .ref (B + 524)), (2, .ref (B + 518)), (1, .ref B), (0, .ref 0)]) (st' := [.ref (B + 524)]) rfl ?_
    refine mi_blk okL_law_18 1 (pc' := 1267) (lv' := [(7, .int v), (6, .int code), (5, .int 0), (4, .ref (B + 525)), (3, .ref (B + 524)), (2, .ref (B + 518)), (1, .ref B), (0, .ref 0)]) (st' := [.int 0, .ref (B + 524)]) rfl ?_
    refine mo_lld okL_law_18 rfl (show 6 ≤ _ by have := hL.1.z.1; omega) e3.1 e3.2 ?_
    change mi_WX _ pP X kL_law 9 29 294 1268 [(7, .int v), (6, .int code), (5, .int 0), (4, .ref (B + 525)), (3, .ref (B + 524)), (2, .ref (B + 518)), (1, .ref B), (0, .ref 0)] [.long v.toInt64] h2 _
    refine mi_blk okL_law_18 3 (pc' := 1272) (lv' := [(7, .int v), (6, .int code), (5, .int 0), (4, .ref (B + 525)), (3, .ref (B + 524)), (2, .ref (B + 518)), (1, .ref B), (0, .ref 0)]) (st' := [.int (lg_cmp v.toInt64 v.toInt64)]) rfl ?_
    refine mi_if_eq okL_law_18 rfl rfl (fun c_1272 => ?_) (fun c_1272 => absurd (lg_cmp_self _) c_1272)
    refine mi_blk okL_law_18 1 (pc' := 1732) (lv' := [(7, .int v), (6, .int code), (5, .int 0), (4, .ref (B + 525)), (3, .ref (B + 524)), (2, .ref (B + 518)), (1, .ref B), (0, .ref 0)]) (st' := []) rfl ?_
    exact mi_WX.locs (lv' := [(5, .int 0), (0, .ref 0)]) (by simp) (l_end hX5)
set_option maxHeartbeats 4000000 in
set_option maxRecDepth 100000 in
theorem w_ofTrack {X : mi_X} (hX5 : (X 0).1 = 5) (hX1 : mi_X1 X) (hX : mi_X23 X) {B : Nat} {h : mi_H} (hL : LC B h) : mi_W pP X kL_law 9 30 300 1280 [(5, .int 0), (4, .ref (B + 525)), (3, .ref (B + 524)), (2, .ref (B + 518)), (1, .ref B), (0, .ref 0)] [] h (fun r _ => r = some (.int 1)) := by
  refine mi_blk okL_law_18 5 (pc' := 1286) (lv' := [(5, .int 0), (4, .ref (B + 525)), (3, .ref (B + 524)), (2, .ref (B + 518)), (1, .ref B), (0, .ref 0)]) (st' := [.int 1, .ref 0, .ref B]) rfl ?_
  refine lw_ld okL_law_18 hX5 1 rfl rfl (by decide) ?_
  refine mi_blk okL_law_18 4 (pc' := 1292) (lv' := [(5, .int 0), (4, .ref (B + 525)), (3, .ref (B + 524)), (2, .ref (B + 518)), (1, .ref B), (0, .ref 0)]) (st' := [.int 2, .ref 0, .int ((X 0).2 1), .ref B]) rfl ?_
  refine lw_ld okL_law_18 hX5 2 rfl rfl (by decide) ?_
  refine mi_blk okL_law_18 1 (pc' := 1294) (lv' := [(5, .int 0), (4, .ref (B + 525)), (3, .ref (B + 524)), (2, .ref (B + 518)), (1, .ref B), (0, .ref 0)]) (st' := [.ref (B + 524), .int ((X 0).2 2), .int ((X 0).2 1), .ref B]) rfl ?_
  obtain ⟨code, v, s1, s2⟩ := a_ofTrack (X := X) hX1 hX hL.1 (O := (B + 524)) (show B + 518 ≤ (B + 524) ∧ (B + 524) < h.1 by rw [hL.2.2.2.2.2]; omega) hL.2.2.2.1 ((X 0).2 1) ((X 0).2 2)
  refine mi_callSH okL_law_18 (mc := 29) (ms := 294) (mc' := 1) (ms' := 6) (As := [.ref B, .int ((X 0).2 1), .int ((X 0).2 2), .ref (B + 524)]) (st := []) rfl ch_RL_165 rfl (by decide) (Nat.le_of_ble_eq_true rfl) s1 (fun r h1 q => ?_)
  obtain ⟨rfl, e1⟩ := q
  obtain ⟨w1, c1⟩ := hL.mo (by omega) e1
  change mi_WX _ pP X kL_law 9 29 294 1297 [(5, .int 0), (4, .ref (B + 525)), (3, .ref (B + 524)), (2, .ref (B + 518)), (1, .ref B), (0, .ref 0)] [.int code] h1 _
  refine mi_blk okL_law_18 1 (pc' := 1299) (lv' := [(6, .int code), (5, .int 0), (4, .ref (B + 525)), (3, .ref (B + 524)), (2, .ref (B + 518)), (1, .ref B), (0, .ref 0)]) (st' := []) rfl ?_
  refine mi_blk okL_law_18 5 (pc' := 1305) (lv' := [(6, .int code), (5, .int 0), (4, .ref (B + 525)), (3, .ref (B + 524)), (2, .ref (B + 518)), (1, .ref B), (0, .ref 0)]) (st' := [.int 1, .ref 0, .ref (B + 518)]) rfl ?_
  refine lw_ld okL_law_18 hX5 1 rfl rfl (by decide) ?_
  refine mi_blk okL_law_18 2 (pc' := 1309) (lv' := [(6, .int code), (5, .int 0), (4, .ref (B + 525)), (3, .ref (B + 524)), (2, .ref (B + 518)), (1, .ref B), (0, .ref 0)]) (st' := [.int 0, .ref 0, .int ((X 0).2 1), .ref (B + 518)]) rfl ?_
  refine mi_blk okL_law_19 1 (pc' := 1310) (lv' := [(6, .int code), (5, .int 0), (4, .ref (B + 525)), (3, .ref (B + 524)), (2, .ref (B + 518)), (1, .ref B), (0, .ref 0)]) (st' := [.int 2, .int 0, .ref 0, .int ((X 0).2 1), .ref (B + 518)]) rfl ?_
  refine mi_blk okL_law_19 1 (pc' := 1311) (lv' := [(6, .int code), (5, .int 0), (4, .ref (B + 525)), (3, .ref (B + 524)), (2, .ref (B + 518)), (1, .ref B), (0, .ref 0)]) (st' := [.int 2, .ref 0, .int ((X 0).2 1), .ref (B + 518)]) rfl ?_
  refine lw_ld okL_law_19 hX5 2 rfl rfl (by decide) ?_
  refine mi_callV okL_law_19 (mc := 29) (ms := 294) (mc' := 0) (ms' := 0) (b := (B + 518)) (As := [.int ((X 0).2 1), .int ((X 0).2 2)]) (st := []) rfl cv_RL_167 rfl (by decide) (show 6 ≤ _ by have := hL.1.z.1; omega) (mo_W.lt w1) c1 rfl (Nat.le_of_ble_eq_true rfl) (s2 (B + 518) h1 w1 c1) (fun r h2 q => ?_)
  obtain ⟨rfl, e2⟩ := q
  obtain ⟨u9, c2⟩ := e2.2.1
  have l2 : B + 518 < h2.1 := Nat.lt_of_lt_of_le (mo_W.lt w1) e2.1
  change mi_WX _ pP X kL_law 9 29 294 1315 [(6, .int code), (5, .int 0), (4, .ref (B + 525)), (3, .ref (B + 524)), (2, .ref (B + 518)), (1, .ref B), (0, .ref 0)] [.int v] h2 _
  refine mi_blk okL_law_19 1 (pc' := 1317) (lv' := [(7, .int v), (6, .int code), (5, .int 0), (4, .ref (B + 525)), (3, .ref (B + 524)), (2, .ref (B + 518)), (1, .ref B), (0, .ref 0)]) (st' := []) rfl ?_
  refine mi_blk okL_law_19 1 (pc' := 1318) (lv' := [(7, .int v), (6, .int code), (5, .int 0), (4, .ref (B + 525)), (3, .ref (B + 524)), (2, .ref (B + 518)), (1, .ref B), (0, .ref 0)]) (st' := [.ref (B + 518)]) rfl ?_
  refine mi_callV okL_law_19 (mc := 29) (ms := 294) (mc' := 0) (ms' := 0) (b := (B + 518)) (As := []) (st := []) rfl cv_RL_97 rfl (by decide) (show 6 ≤ _ by have := hL.1.z.1; omega) l2 c2 rfl (Nat.le_of_ble_eq_true rfl) (m_thrown (show 6 ≤ B + 518 by have := hL.1.z.1; omega) l2 c2) (fun r h9 q => ?_)
  obtain ⟨rfl, e9⟩ := q; have e9 := e9.symm; subst e9
  change mi_WX _ pP X kL_law 9 29 294 1321 [(7, .int v), (6, .int code), (5, .int 0), (4, .ref (B + 525)), (3, .ref (B + 524)), (2, .ref (B + 518)), (1, .ref B), (0, .ref 0)] [.int code] h2 _
  refine mi_blk okL_law_19 1 (pc' := 1323) (lv' := [(7, .int v), (6, .int code), (5, .int 0), (4, .ref (B + 525)), (3, .ref (B + 524)), (2, .ref (B + 518)), (1, .ref B), (0, .ref 0)]) (st' := [.int code, .int code]) rfl ?_
  refine mi_ic_eq okL_law_19 rfl rfl (fun c_1323 => ?_) (fun c_1323 => absurd rfl c_1323)
  refine mi_blk okL_law_19 1 (pc' := 1330) (lv' := [(7, .int v), (6, .int code), (5, .int 0), (4, .ref (B + 525)), (3, .ref (B + 524)), (2, .ref (B + 518)), (1, .ref B), (0, .ref 0)]) (st' := [.int code]) rfl ?_
  refine mi_if_ne okL_law_19 rfl rfl (fun c_1330 => ?_) (fun c_1330 => ?_)
  · refine mi_blk okL_law_19 1 (pc' := 1732) (lv' := [(7, .int v), (6, .int code), (5, .int 0), (4, .ref (B + 525)), (3, .ref (B + 524)), (2, .ref (B + 518)), (1, .ref B), (0, .ref 0)]) (st' := []) rfl ?_
    exact mi_WX.locs (lv' := [(5, .int 0), (0, .ref 0)]) (by simp) (l_end hX5)
  · have e3 := hL.out (O := (B + 524)) (by omega) e1 e2 c_1330
    refine mi_blk okL_law_19 1 (pc' := 1334) (lv' := [(7, .int v), (6, .int code), (5, .int 0), (4, .ref (B + 525)), (3, .ref (B + 524)), (2, .ref (B + 518)), (1, .ref B), (0, .ref 0)]) (st' := [.ref (B + 524)]) rfl ?_
    refine mi_blk okL_law_19 1 (pc' := 1335) (lv' := [(7, .int v), (6, .int code), (5, .int 0), (4, .ref (B + 525)), (3, .ref (B + 524)), (2, .ref (B + 518)), (1, .ref B), (0, .ref 0)]) (st' := [.int 0, .ref (B + 524)]) rfl ?_
    refine mo_lld okL_law_19 rfl (show 6 ≤ _ by have := hL.1.z.1; omega) e3.1 e3.2 ?_
    change mi_WX _ pP X kL_law 9 29 294 1336 [(7, .int v), (6, .int code), (5, .int 0), (4, .ref (B + 525)), (3, .ref (B + 524)), (2, .ref (B + 518)), (1, .ref B), (0, .ref 0)] [.long v.toInt64] h2 _
    refine mi_blk okL_law_19 3 (pc' := 1340) (lv' := [(7, .int v), (6, .int code), (5, .int 0), (4, .ref (B + 525)), (3, .ref (B + 524)), (2, .ref (B + 518)), (1, .ref B), (0, .ref 0)]) (st' := [.int (lg_cmp v.toInt64 v.toInt64)]) rfl ?_
    refine mi_if_eq okL_law_19 rfl rfl (fun c_1340 => ?_) (fun c_1340 => absurd (lg_cmp_self _) c_1340)
    refine mi_blk okL_law_19 1 (pc' := 1732) (lv' := [(7, .int v), (6, .int code), (5, .int 0), (4, .ref (B + 525)), (3, .ref (B + 524)), (2, .ref (B + 518)), (1, .ref B), (0, .ref 0)]) (st' := []) rfl ?_
    exact mi_WX.locs (lv' := [(5, .int 0), (0, .ref 0)]) (by simp) (l_end hX5)
set_option maxHeartbeats 4000000 in
set_option maxRecDepth 100000 in
theorem w_ofFile {X : mi_X} (hX5 : (X 0).1 = 5) (hX1 : mi_X1 X) (hX : mi_X23 X) {B : Nat} {h : mi_H} (hL : LC B h) : mi_W pP X kL_law 9 30 300 1348 [(5, .int 0), (4, .ref (B + 525)), (3, .ref (B + 524)), (2, .ref (B + 518)), (1, .ref B), (0, .ref 0)] [] h (fun r _ => r = some (.int 1)) := by
  refine mi_blk okL_law_19 5 (pc' := 1354) (lv' := [(5, .int 0), (4, .ref (B + 525)), (3, .ref (B + 524)), (2, .ref (B + 518)), (1, .ref B), (0, .ref 0)]) (st' := [.int 1, .ref 0, .ref B]) rfl ?_
  refine lw_ld okL_law_19 hX5 1 rfl rfl (by decide) ?_
  refine mi_blk okL_law_19 4 (pc' := 1360) (lv' := [(5, .int 0), (4, .ref (B + 525)), (3, .ref (B + 524)), (2, .ref (B + 518)), (1, .ref B), (0, .ref 0)]) (st' := [.int 2, .ref 0, .int ((X 0).2 1), .ref B]) rfl ?_
  refine lw_ld okL_law_19 hX5 2 rfl rfl (by decide) ?_
  refine mi_blk okL_law_19 4 (pc' := 1366) (lv' := [(5, .int 0), (4, .ref (B + 525)), (3, .ref (B + 524)), (2, .ref (B + 518)), (1, .ref B), (0, .ref 0)]) (st' := [.int 3, .ref 0, .int ((X 0).2 2), .int ((X 0).2 1), .ref B]) rfl ?_
  refine lw_ld okL_law_19 hX5 3 rfl rfl (by decide) ?_
  refine mi_blk okL_law_19 1 (pc' := 1368) (lv' := [(5, .int 0), (4, .ref (B + 525)), (3, .ref (B + 524)), (2, .ref (B + 518)), (1, .ref B), (0, .ref 0)]) (st' := [.ref (B + 524), .int ((X 0).2 3), .int ((X 0).2 2), .int ((X 0).2 1), .ref B]) rfl ?_
  obtain ⟨code, v, s1, s2⟩ := a_ofFile (X := X) hX1 hX hL.1 (O := (B + 524)) (show B + 518 ≤ (B + 524) ∧ (B + 524) < h.1 by rw [hL.2.2.2.2.2]; omega) hL.2.2.2.1 ((X 0).2 1) ((X 0).2 2) ((X 0).2 3)
  refine mi_callSH okL_law_20 (mc := 29) (ms := 294) (mc' := 1) (ms' := 6) (As := [.ref B, .int ((X 0).2 1), .int ((X 0).2 2), .int ((X 0).2 3), .ref (B + 524)]) (st := []) rfl ch_RL_168 rfl (by decide) (Nat.le_of_ble_eq_true rfl) s1 (fun r h1 q => ?_)
  obtain ⟨rfl, e1⟩ := q
  obtain ⟨w1, c1⟩ := hL.mo (by omega) e1
  change mi_WX _ pP X kL_law 9 29 294 1371 [(5, .int 0), (4, .ref (B + 525)), (3, .ref (B + 524)), (2, .ref (B + 518)), (1, .ref B), (0, .ref 0)] [.int code] h1 _
  refine mi_blk okL_law_20 1 (pc' := 1373) (lv' := [(6, .int code), (5, .int 0), (4, .ref (B + 525)), (3, .ref (B + 524)), (2, .ref (B + 518)), (1, .ref B), (0, .ref 0)]) (st' := []) rfl ?_
  refine mi_blk okL_law_20 5 (pc' := 1379) (lv' := [(6, .int code), (5, .int 0), (4, .ref (B + 525)), (3, .ref (B + 524)), (2, .ref (B + 518)), (1, .ref B), (0, .ref 0)]) (st' := [.int 1, .ref 0, .ref (B + 518)]) rfl ?_
  refine lw_ld okL_law_20 hX5 1 rfl rfl (by decide) ?_
  refine mi_blk okL_law_20 4 (pc' := 1385) (lv' := [(6, .int code), (5, .int 0), (4, .ref (B + 525)), (3, .ref (B + 524)), (2, .ref (B + 518)), (1, .ref B), (0, .ref 0)]) (st' := [.int 2, .ref 0, .int ((X 0).2 1), .ref (B + 518)]) rfl ?_
  refine lw_ld okL_law_20 hX5 2 rfl rfl (by decide) ?_
  refine mi_blk okL_law_20 4 (pc' := 1391) (lv' := [(6, .int code), (5, .int 0), (4, .ref (B + 525)), (3, .ref (B + 524)), (2, .ref (B + 518)), (1, .ref B), (0, .ref 0)]) (st' := [.int 3, .ref 0, .int ((X 0).2 2), .int ((X 0).2 1), .ref (B + 518)]) rfl ?_
  refine lw_ld okL_law_20 hX5 3 rfl rfl (by decide) ?_
  refine mi_callV okL_law_20 (mc := 29) (ms := 294) (mc' := 0) (ms' := 0) (b := (B + 518)) (As := [.int ((X 0).2 1), .int ((X 0).2 2), .int ((X 0).2 3)]) (st := []) rfl cv_RL_170 rfl (by decide) (show 6 ≤ _ by have := hL.1.z.1; omega) (mo_W.lt w1) c1 rfl (Nat.le_of_ble_eq_true rfl) (s2 (B + 518) h1 w1 c1) (fun r h2 q => ?_)
  obtain ⟨rfl, e2⟩ := q
  obtain ⟨u9, c2⟩ := e2.2.1
  have l2 : B + 518 < h2.1 := Nat.lt_of_lt_of_le (mo_W.lt w1) e2.1
  change mi_WX _ pP X kL_law 9 29 294 1395 [(6, .int code), (5, .int 0), (4, .ref (B + 525)), (3, .ref (B + 524)), (2, .ref (B + 518)), (1, .ref B), (0, .ref 0)] [.int v] h2 _
  refine mi_blk okL_law_20 1 (pc' := 1397) (lv' := [(7, .int v), (6, .int code), (5, .int 0), (4, .ref (B + 525)), (3, .ref (B + 524)), (2, .ref (B + 518)), (1, .ref B), (0, .ref 0)]) (st' := []) rfl ?_
  refine mi_blk okL_law_20 1 (pc' := 1398) (lv' := [(7, .int v), (6, .int code), (5, .int 0), (4, .ref (B + 525)), (3, .ref (B + 524)), (2, .ref (B + 518)), (1, .ref B), (0, .ref 0)]) (st' := [.ref (B + 518)]) rfl ?_
  refine mi_callV okL_law_20 (mc := 29) (ms := 294) (mc' := 0) (ms' := 0) (b := (B + 518)) (As := []) (st := []) rfl cv_RL_97 rfl (by decide) (show 6 ≤ _ by have := hL.1.z.1; omega) l2 c2 rfl (Nat.le_of_ble_eq_true rfl) (m_thrown (show 6 ≤ B + 518 by have := hL.1.z.1; omega) l2 c2) (fun r h9 q => ?_)
  obtain ⟨rfl, e9⟩ := q; have e9 := e9.symm; subst e9
  change mi_WX _ pP X kL_law 9 29 294 1401 [(7, .int v), (6, .int code), (5, .int 0), (4, .ref (B + 525)), (3, .ref (B + 524)), (2, .ref (B + 518)), (1, .ref B), (0, .ref 0)] [.int code] h2 _
  refine mi_blk okL_law_20 1 (pc' := 1403) (lv' := [(7, .int v), (6, .int code), (5, .int 0), (4, .ref (B + 525)), (3, .ref (B + 524)), (2, .ref (B + 518)), (1, .ref B), (0, .ref 0)]) (st' := [.int code, .int code]) rfl ?_
  refine mi_ic_eq okL_law_20 rfl rfl (fun c_1403 => ?_) (fun c_1403 => absurd rfl c_1403)
  refine mi_blk okL_law_20 1 (pc' := 1410) (lv' := [(7, .int v), (6, .int code), (5, .int 0), (4, .ref (B + 525)), (3, .ref (B + 524)), (2, .ref (B + 518)), (1, .ref B), (0, .ref 0)]) (st' := [.int code]) rfl ?_
  refine mi_if_ne okL_law_20 rfl rfl (fun c_1410 => ?_) (fun c_1410 => ?_)
  · refine mi_blk okL_law_20 1 (pc' := 1732) (lv' := [(7, .int v), (6, .int code), (5, .int 0), (4, .ref (B + 525)), (3, .ref (B + 524)), (2, .ref (B + 518)), (1, .ref B), (0, .ref 0)]) (st' := []) rfl ?_
    exact mi_WX.locs (lv' := [(5, .int 0), (0, .ref 0)]) (by simp) (l_end hX5)
  · have e3 := hL.out (O := (B + 524)) (by omega) e1 e2 c_1410
    refine mi_blk okL_law_20 1 (pc' := 1414) (lv' := [(7, .int v), (6, .int code), (5, .int 0), (4, .ref (B + 525)), (3, .ref (B + 524)), (2, .ref (B + 518)), (1, .ref B), (0, .ref 0)]) (st' := [.ref (B + 524)]) rfl ?_
    refine mi_blk okL_law_20 1 (pc' := 1415) (lv' := [(7, .int v), (6, .int code), (5, .int 0), (4, .ref (B + 525)), (3, .ref (B + 524)), (2, .ref (B + 518)), (1, .ref B), (0, .ref 0)]) (st' := [.int 0, .ref (B + 524)]) rfl ?_
    refine mo_lld okL_law_20 rfl (show 6 ≤ _ by have := hL.1.z.1; omega) e3.1 e3.2 ?_
    change mi_WX _ pP X kL_law 9 29 294 1416 [(7, .int v), (6, .int code), (5, .int 0), (4, .ref (B + 525)), (3, .ref (B + 524)), (2, .ref (B + 518)), (1, .ref B), (0, .ref 0)] [.long v.toInt64] h2 _
    refine mi_blk okL_law_20 3 (pc' := 1420) (lv' := [(7, .int v), (6, .int code), (5, .int 0), (4, .ref (B + 525)), (3, .ref (B + 524)), (2, .ref (B + 518)), (1, .ref B), (0, .ref 0)]) (st' := [.int (lg_cmp v.toInt64 v.toInt64)]) rfl ?_
    refine mi_if_eq okL_law_20 rfl rfl (fun c_1420 => ?_) (fun c_1420 => absurd (lg_cmp_self _) c_1420)
    refine mi_blk okL_law_20 1 (pc' := 1732) (lv' := [(7, .int v), (6, .int code), (5, .int 0), (4, .ref (B + 525)), (3, .ref (B + 524)), (2, .ref (B + 518)), (1, .ref B), (0, .ref 0)]) (st' := []) rfl ?_
    exact mi_WX.locs (lv' := [(5, .int 0), (0, .ref 0)]) (by simp) (l_end hX5)
set_option maxHeartbeats 4000000 in
set_option maxRecDepth 100000 in
theorem w_play {X : mi_X} (hX5 : (X 0).1 = 5) (hX1 : mi_X1 X) (hX : mi_X23 X) {B : Nat} {h : mi_H} (hL : LC B h) : mi_W pP X kL_law 9 30 300 1428 [(5, .int 0), (4, .ref (B + 525)), (3, .ref (B + 524)), (2, .ref (B + 518)), (1, .ref B), (0, .ref 0)] [] h (fun r _ => r = some (.int 1)) := by
  refine mi_blk okL_law_20 2 (pc' := 1430) (lv' := [(5, .int 0), (4, .ref (B + 525)), (3, .ref (B + 524)), (2, .ref (B + 518)), (1, .ref B), (0, .ref 0)]) (st' := [.ref 0, .ref B]) rfl ?_
  refine mi_blk okL_law_21 1 (pc' := 1432) (lv' := [(5, .int 0), (4, .ref (B + 525)), (3, .ref (B + 524)), (2, .ref (B + 518)), (1, .ref B), (0, .ref 0)]) (st' := [.int 0, .ref 0, .ref B]) rfl ?_
  refine mi_blk okL_law_21 2 (pc' := 1434) (lv' := [(5, .int 0), (4, .ref (B + 525)), (3, .ref (B + 524)), (2, .ref (B + 518)), (1, .ref B), (0, .ref 0)]) (st' := [.int 1, .ref 0, .ref B]) rfl ?_
  refine lw_ld okL_law_21 hX5 1 rfl rfl (by decide) ?_
  refine mi_blk okL_law_21 1 (pc' := 1437) (lv' := [(5, .int 0), (4, .ref (B + 525)), (3, .ref (B + 524)), (2, .ref (B + 518)), (1, .ref B), (0, .ref 0)]) (st' := [.ref (B + 525), .int ((X 0).2 1), .ref B]) rfl ?_
  obtain ⟨code, v, s1, s2⟩ := a_play (X := X) hX1 hX hL.1 (O := (B + 525)) (show B + 518 ≤ (B + 525) ∧ (B + 525) < h.1 by rw [hL.2.2.2.2.2]; omega) hL.2.2.2.2.1 ((X 0).2 1)
  refine mi_callSH okL_law_21 (mc := 29) (ms := 294) (mc' := 1) (ms' := 6) (As := [.ref B, .int ((X 0).2 1), .ref (B + 525)]) (st := []) rfl ch_RL_171 rfl (by decide) (Nat.le_of_ble_eq_true rfl) s1 (fun r h1 q => ?_)
  obtain ⟨rfl, e1⟩ := q
  obtain ⟨w1, c1⟩ := hL.mo (by omega) e1
  change mi_WX _ pP X kL_law 9 29 294 1440 [(5, .int 0), (4, .ref (B + 525)), (3, .ref (B + 524)), (2, .ref (B + 518)), (1, .ref B), (0, .ref 0)] [.int code] h1 _
  refine mi_blk okL_law_21 1 (pc' := 1442) (lv' := [(6, .int code), (5, .int 0), (4, .ref (B + 525)), (3, .ref (B + 524)), (2, .ref (B + 518)), (1, .ref B), (0, .ref 0)]) (st' := []) rfl ?_
  refine mi_blk okL_law_21 5 (pc' := 1448) (lv' := [(6, .int code), (5, .int 0), (4, .ref (B + 525)), (3, .ref (B + 524)), (2, .ref (B + 518)), (1, .ref B), (0, .ref 0)]) (st' := [.int 1, .ref 0, .ref (B + 518)]) rfl ?_
  refine lw_ld okL_law_21 hX5 1 rfl rfl (by decide) ?_
  refine mi_callV okL_law_21 (mc := 29) (ms := 294) (mc' := 0) (ms' := 0) (b := (B + 518)) (As := [.int ((X 0).2 1)]) (st := []) rfl cv_RL_173 rfl (by decide) (show 6 ≤ _ by have := hL.1.z.1; omega) (mo_W.lt w1) c1 rfl (Nat.le_of_ble_eq_true rfl) (s2 (B + 518) h1 w1 c1) (fun r h2 q => ?_)
  obtain ⟨rfl, e2⟩ := q
  obtain ⟨u9, c2⟩ := e2.2.1
  have l2 : B + 518 < h2.1 := Nat.lt_of_lt_of_le (mo_W.lt w1) e2.1
  change mi_WX _ pP X kL_law 9 29 294 1452 [(6, .int code), (5, .int 0), (4, .ref (B + 525)), (3, .ref (B + 524)), (2, .ref (B + 518)), (1, .ref B), (0, .ref 0)] [.double v] h2 _
  refine mi_blk okL_law_21 1 (pc' := 1454) (lv' := [(7, .double v), (6, .int code), (5, .int 0), (4, .ref (B + 525)), (3, .ref (B + 524)), (2, .ref (B + 518)), (1, .ref B), (0, .ref 0)]) (st' := []) rfl ?_
  refine mi_blk okL_law_21 1 (pc' := 1455) (lv' := [(7, .double v), (6, .int code), (5, .int 0), (4, .ref (B + 525)), (3, .ref (B + 524)), (2, .ref (B + 518)), (1, .ref B), (0, .ref 0)]) (st' := [.ref (B + 518)]) rfl ?_
  refine mi_callV okL_law_21 (mc := 29) (ms := 294) (mc' := 0) (ms' := 0) (b := (B + 518)) (As := []) (st := []) rfl cv_RL_97 rfl (by decide) (show 6 ≤ _ by have := hL.1.z.1; omega) l2 c2 rfl (Nat.le_of_ble_eq_true rfl) (m_thrown (show 6 ≤ B + 518 by have := hL.1.z.1; omega) l2 c2) (fun r h9 q => ?_)
  obtain ⟨rfl, e9⟩ := q; have e9 := e9.symm; subst e9
  change mi_WX _ pP X kL_law 9 29 294 1458 [(7, .double v), (6, .int code), (5, .int 0), (4, .ref (B + 525)), (3, .ref (B + 524)), (2, .ref (B + 518)), (1, .ref B), (0, .ref 0)] [.int code] h2 _
  refine mi_blk okL_law_21 1 (pc' := 1460) (lv' := [(7, .double v), (6, .int code), (5, .int 0), (4, .ref (B + 525)), (3, .ref (B + 524)), (2, .ref (B + 518)), (1, .ref B), (0, .ref 0)]) (st' := [.int code, .int code]) rfl ?_
  refine mi_ic_eq okL_law_21 rfl rfl (fun c_1460 => ?_) (fun c_1460 => absurd rfl c_1460)
  refine mi_blk okL_law_21 1 (pc' := 1467) (lv' := [(7, .double v), (6, .int code), (5, .int 0), (4, .ref (B + 525)), (3, .ref (B + 524)), (2, .ref (B + 518)), (1, .ref B), (0, .ref 0)]) (st' := [.int code]) rfl ?_
  refine mi_if_ne okL_law_21 rfl rfl (fun c_1467 => ?_) (fun c_1467 => ?_)
  · refine mi_blk okL_law_22 1 (pc' := 1732) (lv' := [(7, .double v), (6, .int code), (5, .int 0), (4, .ref (B + 525)), (3, .ref (B + 524)), (2, .ref (B + 518)), (1, .ref B), (0, .ref 0)]) (st' := []) rfl ?_
    exact mi_WX.locs (lv' := [(5, .int 0), (0, .ref 0)]) (by simp) (l_end hX5)
  · have e3 := hL.out (O := (B + 525)) (by omega) e1 e2 c_1467
    refine mi_blk okL_law_21 1 (pc' := 1472) (lv' := [(7, .double v), (6, .int code), (5, .int 0), (4, .ref (B + 525)), (3, .ref (B + 524)), (2, .ref (B + 518)), (1, .ref B), (0, .ref 0)]) (st' := [.ref (B + 525)]) rfl ?_
    refine mi_blk okL_law_21 1 (pc' := 1473) (lv' := [(7, .double v), (6, .int code), (5, .int 0), (4, .ref (B + 525)), (3, .ref (B + 524)), (2, .ref (B + 518)), (1, .ref B), (0, .ref 0)]) (st' := [.int 0, .ref (B + 525)]) rfl ?_
    refine mo_dld okL_law_21 rfl (show 6 ≤ _ by have := hL.1.z.1; omega) e3.1 e3.2 ?_
    change mi_WX _ pP X kL_law 9 29 294 1474 [(7, .double v), (6, .int code), (5, .int 0), (4, .ref (B + 525)), (3, .ref (B + 524)), (2, .ref (B + 518)), (1, .ref B), (0, .ref 0)] [.double v] h2 _
    refine mi_blk okL_law_21 2 (pc' := 1477) (lv' := [(7, .double v), (6, .int code), (5, .int 0), (4, .ref (B + 525)), (3, .ref (B + 524)), (2, .ref (B + 518)), (1, .ref B), (0, .ref 0)]) (st' := [.int (Op.cmpValue (FP.dcmp v v) .l)]) rfl ?_
    refine mi_if_eq okL_law_21 rfl rfl (fun c_1477 => ?_) (fun c_1477 => ?_)
    · refine mi_blk okL_law_22 1 (pc' := 1732) (lv' := [(7, .double v), (6, .int code), (5, .int 0), (4, .ref (B + 525)), (3, .ref (B + 524)), (2, .ref (B + 518)), (1, .ref B), (0, .ref 0)]) (st' := []) rfl ?_
      exact mi_WX.locs (lv' := [(5, .int 0), (0, .ref 0)]) (by simp) (l_end hX5)
    · refine mi_blk okL_law_21 2 (pc' := 1483) (lv' := [(7, .double v), (6, .int code), (5, .int 0), (4, .ref (B + 525)), (3, .ref (B + 524)), (2, .ref (B + 518)), (1, .ref B), (0, .ref 0)]) (st' := [.int 0, .ref (B + 525)]) rfl ?_
      refine mo_dld okL_law_21 rfl (show 6 ≤ _ by have := hL.1.z.1; omega) e3.1 e3.2 ?_
      change mi_WX _ pP X kL_law 9 29 294 1484 [(7, .double v), (6, .int code), (5, .int 0), (4, .ref (B + 525)), (3, .ref (B + 524)), (2, .ref (B + 518)), (1, .ref B), (0, .ref 0)] [.double v] h2 _
      refine mi_blk okL_law_21 2 (pc' := 1487) (lv' := [(7, .double v), (6, .int code), (5, .int 0), (4, .ref (B + 525)), (3, .ref (B + 524)), (2, .ref (B + 518)), (1, .ref B), (0, .ref 0)]) (st' := [.int 0, .ref (B + 525), .double v]) rfl ?_
      refine mo_dld okL_law_21 rfl (show 6 ≤ _ by have := hL.1.z.1; omega) e3.1 e3.2 ?_
      change mi_WX _ pP X kL_law 9 29 294 1488 [(7, .double v), (6, .int code), (5, .int 0), (4, .ref (B + 525)), (3, .ref (B + 524)), (2, .ref (B + 518)), (1, .ref B), (0, .ref 0)] [.double v, .double v] h2 _
      refine mi_blk okL_law_21 1 (pc' := 1489) (lv' := [(7, .double v), (6, .int code), (5, .int 0), (4, .ref (B + 525)), (3, .ref (B + 524)), (2, .ref (B + 518)), (1, .ref B), (0, .ref 0)]) (st' := [.int (Op.cmpValue (FP.dcmp v v) .l)]) rfl ?_
      refine mi_if_eq okL_law_21 rfl rfl (fun c_1489 => absurd c_1489 c_1477) (fun c_1489 => ?_)
      refine mi_blk okL_law_21 3 (pc' := 1497) (lv' := [(7, .double v), (6, .int code), (5, .int 0), (4, .ref (B + 525)), (3, .ref (B + 524)), (2, .ref (B + 518)), (1, .ref B), (0, .ref 0)]) (st' := [.int (Op.cmpValue (FP.dcmp v v) .l)]) rfl ?_
      refine mi_if_ne okL_law_22 rfl rfl (fun c_1497 => ?_) (fun c_1497 => absurd c_1497 c_1477)
      refine mi_blk okL_law_22 1 (pc' := 1732) (lv' := [(7, .double v), (6, .int code), (5, .int 0), (4, .ref (B + 525)), (3, .ref (B + 524)), (2, .ref (B + 518)), (1, .ref B), (0, .ref 0)]) (st' := []) rfl ?_
      exact mi_WX.locs (lv' := [(5, .int 0), (0, .ref 0)]) (by simp) (l_end hX5)
set_option maxHeartbeats 4000000 in
set_option maxRecDepth 100000 in
theorem w_many {X : mi_X} (hX5 : (X 0).1 = 5) (hX1 : mi_X1 X) (hX : mi_X23 X) {B : Nat} {h : mi_H} (hL : LC B h) : mi_W pP X kL_law 9 30 300 1505 [(5, .int 0), (4, .ref (B + 525)), (3, .ref (B + 524)), (2, .ref (B + 518)), (1, .ref B), (0, .ref 0)] [] h (fun r _ => r = some (.int 1)) := by
  refine mi_blk okL_law_22 5 (pc' := 1511) (lv' := [(5, .int 0), (4, .ref (B + 525)), (3, .ref (B + 524)), (2, .ref (B + 518)), (1, .ref B), (0, .ref 0)]) (st' := [.int 1, .ref 0, .ref B]) rfl ?_
  refine lw_ld okL_law_22 hX5 1 rfl rfl (by decide) ?_
  refine mi_blk okL_law_22 1 (pc' := 1513) (lv' := [(5, .int 0), (4, .ref (B + 525)), (3, .ref (B + 524)), (2, .ref (B + 518)), (1, .ref B), (0, .ref 0)]) (st' := [.ref (B + 524), .int ((X 0).2 1), .ref B]) rfl ?_
  obtain ⟨code, v, s1, s2⟩ := a_many (X := X) hX1 hX hL.1 (O := (B + 524)) (show B + 518 ≤ (B + 524) ∧ (B + 524) < h.1 by rw [hL.2.2.2.2.2]; omega) hL.2.2.2.1 ((X 0).2 1)
  refine mi_callSH okL_law_22 (mc := 29) (ms := 294) (mc' := 1) (ms' := 6) (As := [.ref B, .int ((X 0).2 1), .ref (B + 524)]) (st := []) rfl ch_RL_174 rfl (by decide) (Nat.le_of_ble_eq_true rfl) s1 (fun r h1 q => ?_)
  obtain ⟨rfl, e1⟩ := q
  obtain ⟨w1, c1⟩ := hL.mo (by omega) e1
  change mi_WX _ pP X kL_law 9 29 294 1516 [(5, .int 0), (4, .ref (B + 525)), (3, .ref (B + 524)), (2, .ref (B + 518)), (1, .ref B), (0, .ref 0)] [.int code] h1 _
  refine mi_blk okL_law_22 1 (pc' := 1518) (lv' := [(6, .int code), (5, .int 0), (4, .ref (B + 525)), (3, .ref (B + 524)), (2, .ref (B + 518)), (1, .ref B), (0, .ref 0)]) (st' := []) rfl ?_
  refine mi_blk okL_law_22 5 (pc' := 1524) (lv' := [(6, .int code), (5, .int 0), (4, .ref (B + 525)), (3, .ref (B + 524)), (2, .ref (B + 518)), (1, .ref B), (0, .ref 0)]) (st' := [.int 1, .ref 0, .ref (B + 518)]) rfl ?_
  refine lw_ld okL_law_22 hX5 1 rfl rfl (by decide) ?_
  refine mi_callV okL_law_22 (mc := 27) (ms := 278) (mc' := 2) (ms' := 16) (b := (B + 518)) (As := [.int ((X 0).2 1)]) (st := []) rfl cv_RL_176 rfl (by decide) (show 6 ≤ _ by have := hL.1.z.1; omega) (mo_W.lt w1) c1 rfl (Nat.le_of_ble_eq_true rfl) (s2 (B + 518) h1 w1 c1) (fun r h2 q => ?_)
  obtain ⟨rfl, e2⟩ := q
  obtain ⟨u9, c2⟩ := e2.2.1
  have l2 : B + 518 < h2.1 := Nat.lt_of_lt_of_le (mo_W.lt w1) e2.1
  change mi_WX _ pP X kL_law 9 27 278 1528 [(6, .int code), (5, .int 0), (4, .ref (B + 525)), (3, .ref (B + 524)), (2, .ref (B + 518)), (1, .ref B), (0, .ref 0)] [.int v] h2 _
  refine mi_blk okL_law_22 1 (pc' := 1530) (lv' := [(7, .int v), (6, .int code), (5, .int 0), (4, .ref (B + 525)), (3, .ref (B + 524)), (2, .ref (B + 518)), (1, .ref B), (0, .ref 0)]) (st' := []) rfl ?_
  refine mi_blk okL_law_22 1 (pc' := 1531) (lv' := [(7, .int v), (6, .int code), (5, .int 0), (4, .ref (B + 525)), (3, .ref (B + 524)), (2, .ref (B + 518)), (1, .ref B), (0, .ref 0)]) (st' := [.ref (B + 518)]) rfl ?_
  refine mi_callV okL_law_22 (mc := 27) (ms := 278) (mc' := 0) (ms' := 0) (b := (B + 518)) (As := []) (st := []) rfl cv_RL_97 rfl (by decide) (show 6 ≤ _ by have := hL.1.z.1; omega) l2 c2 rfl (Nat.le_of_ble_eq_true rfl) (m_thrown (show 6 ≤ B + 518 by have := hL.1.z.1; omega) l2 c2) (fun r h9 q => ?_)
  obtain ⟨rfl, e9⟩ := q; have e9 := e9.symm; subst e9
  change mi_WX _ pP X kL_law 9 27 278 1534 [(7, .int v), (6, .int code), (5, .int 0), (4, .ref (B + 525)), (3, .ref (B + 524)), (2, .ref (B + 518)), (1, .ref B), (0, .ref 0)] [.int code] h2 _
  refine mi_blk okL_law_22 1 (pc' := 1536) (lv' := [(7, .int v), (6, .int code), (5, .int 0), (4, .ref (B + 525)), (3, .ref (B + 524)), (2, .ref (B + 518)), (1, .ref B), (0, .ref 0)]) (st' := [.int code, .int code]) rfl ?_
  refine mi_ic_eq okL_law_22 rfl rfl (fun c_1536 => ?_) (fun c_1536 => absurd rfl c_1536)
  refine mi_blk okL_law_22 1 (pc' := 1543) (lv' := [(7, .int v), (6, .int code), (5, .int 0), (4, .ref (B + 525)), (3, .ref (B + 524)), (2, .ref (B + 518)), (1, .ref B), (0, .ref 0)]) (st' := [.int code]) rfl ?_
  refine mi_if_ne okL_law_22 rfl rfl (fun c_1543 => ?_) (fun c_1543 => ?_)
  · refine mi_blk okL_law_22 1 (pc' := 1732) (lv' := [(7, .int v), (6, .int code), (5, .int 0), (4, .ref (B + 525)), (3, .ref (B + 524)), (2, .ref (B + 518)), (1, .ref B), (0, .ref 0)]) (st' := []) rfl ?_
    exact mi_WX.locs (lv' := [(5, .int 0), (0, .ref 0)]) (by simp) (l_end hX5)
  · have e3 := hL.out (O := (B + 524)) (by omega) e1 e2 c_1543
    refine mi_blk okL_law_22 1 (pc' := 1547) (lv' := [(7, .int v), (6, .int code), (5, .int 0), (4, .ref (B + 525)), (3, .ref (B + 524)), (2, .ref (B + 518)), (1, .ref B), (0, .ref 0)]) (st' := [.ref (B + 524)]) rfl ?_
    refine mi_blk okL_law_22 1 (pc' := 1548) (lv' := [(7, .int v), (6, .int code), (5, .int 0), (4, .ref (B + 525)), (3, .ref (B + 524)), (2, .ref (B + 518)), (1, .ref B), (0, .ref 0)]) (st' := [.int 0, .ref (B + 524)]) rfl ?_
    refine mo_lld okL_law_22 rfl (show 6 ≤ _ by have := hL.1.z.1; omega) e3.1 e3.2 ?_
    change mi_WX _ pP X kL_law 9 27 278 1549 [(7, .int v), (6, .int code), (5, .int 0), (4, .ref (B + 525)), (3, .ref (B + 524)), (2, .ref (B + 518)), (1, .ref B), (0, .ref 0)] [.long v.toInt64] h2 _
    refine mi_blk okL_law_22 3 (pc' := 1553) (lv' := [(7, .int v), (6, .int code), (5, .int 0), (4, .ref (B + 525)), (3, .ref (B + 524)), (2, .ref (B + 518)), (1, .ref B), (0, .ref 0)]) (st' := [.int (lg_cmp v.toInt64 v.toInt64)]) rfl ?_
    refine mi_if_eq okL_law_22 rfl rfl (fun c_1553 => ?_) (fun c_1553 => absurd (lg_cmp_self _) c_1553)
    refine mi_blk okL_law_22 1 (pc' := 1732) (lv' := [(7, .int v), (6, .int code), (5, .int 0), (4, .ref (B + 525)), (3, .ref (B + 524)), (2, .ref (B + 518)), (1, .ref B), (0, .ref 0)]) (st' := []) rfl ?_
    exact mi_WX.locs (lv' := [(5, .int 0), (0, .ref 0)]) (by simp) (l_end hX5)
set_option maxHeartbeats 4000000 in
set_option maxRecDepth 100000 in
theorem w_wouldTake {X : mi_X} (hX5 : (X 0).1 = 5) (hX1 : mi_X1 X) (hX : mi_X23 X) {B : Nat} {h : mi_H} (hL : LC B h) : mi_W pP X kL_law 9 30 300 1561 [(5, .int 0), (4, .ref (B + 525)), (3, .ref (B + 524)), (2, .ref (B + 518)), (1, .ref B), (0, .ref 0)] [] h (fun r _ => r = some (.int 1)) := by
  refine mi_blk okL_law_22 1 (pc' := 1562) (lv' := [(5, .int 0), (4, .ref (B + 525)), (3, .ref (B + 524)), (2, .ref (B + 518)), (1, .ref B), (0, .ref 0)]) (st' := [.ref B]) rfl ?_
  refine mi_blk okL_law_23 1 (pc' := 1563) (lv' := [(5, .int 0), (4, .ref (B + 525)), (3, .ref (B + 524)), (2, .ref (B + 518)), (1, .ref B), (0, .ref 0)]) (st' := [.ref 0, .ref B]) rfl ?_
  refine mi_blk okL_law_23 3 (pc' := 1567) (lv' := [(5, .int 0), (4, .ref (B + 525)), (3, .ref (B + 524)), (2, .ref (B + 518)), (1, .ref B), (0, .ref 0)]) (st' := [.int 1, .ref 0, .ref B]) rfl ?_
  refine lw_ld okL_law_23 hX5 1 rfl rfl (by decide) ?_
  refine mi_blk okL_law_23 4 (pc' := 1573) (lv' := [(5, .int 0), (4, .ref (B + 525)), (3, .ref (B + 524)), (2, .ref (B + 518)), (1, .ref B), (0, .ref 0)]) (st' := [.int 2, .ref 0, .int ((X 0).2 1), .ref B]) rfl ?_
  refine lw_ld okL_law_23 hX5 2 rfl rfl (by decide) ?_
  refine mi_blk okL_law_23 1 (pc' := 1576) (lv' := [(5, .int 0), (4, .ref (B + 525)), (3, .ref (B + 524)), (2, .ref (B + 518)), (1, .ref B), (0, .ref 0)]) (st' := [.ref (B + 525), .int ((X 0).2 2), .int ((X 0).2 1), .ref B]) rfl ?_
  obtain ⟨code, v, s1, s2⟩ := a_wouldTake (X := X) hX1 hX hL.1 (O := (B + 525)) (show B + 518 ≤ (B + 525) ∧ (B + 525) < h.1 by rw [hL.2.2.2.2.2]; omega) hL.2.2.2.2.1 ((X 0).2 1) ((X 0).2 2)
  refine mi_callSH okL_law_23 (mc := 29) (ms := 294) (mc' := 1) (ms' := 6) (As := [.ref B, .int ((X 0).2 1), .int ((X 0).2 2), .ref (B + 525)]) (st := []) rfl ch_RL_177 rfl (by decide) (Nat.le_of_ble_eq_true rfl) s1 (fun r h1 q => ?_)
  obtain ⟨rfl, e1⟩ := q
  obtain ⟨w1, c1⟩ := hL.mo (by omega) e1
  change mi_WX _ pP X kL_law 9 29 294 1579 [(5, .int 0), (4, .ref (B + 525)), (3, .ref (B + 524)), (2, .ref (B + 518)), (1, .ref B), (0, .ref 0)] [.int code] h1 _
  refine mi_blk okL_law_23 1 (pc' := 1581) (lv' := [(6, .int code), (5, .int 0), (4, .ref (B + 525)), (3, .ref (B + 524)), (2, .ref (B + 518)), (1, .ref B), (0, .ref 0)]) (st' := []) rfl ?_
  refine mi_blk okL_law_23 5 (pc' := 1587) (lv' := [(6, .int code), (5, .int 0), (4, .ref (B + 525)), (3, .ref (B + 524)), (2, .ref (B + 518)), (1, .ref B), (0, .ref 0)]) (st' := [.int 1, .ref 0, .ref (B + 518)]) rfl ?_
  refine lw_ld okL_law_23 hX5 1 rfl rfl (by decide) ?_
  refine mi_blk okL_law_23 4 (pc' := 1593) (lv' := [(6, .int code), (5, .int 0), (4, .ref (B + 525)), (3, .ref (B + 524)), (2, .ref (B + 518)), (1, .ref B), (0, .ref 0)]) (st' := [.int 2, .ref 0, .int ((X 0).2 1), .ref (B + 518)]) rfl ?_
  refine lw_ld okL_law_23 hX5 2 rfl rfl (by decide) ?_
  refine mi_callV okL_law_23 (mc := 29) (ms := 294) (mc' := 0) (ms' := 0) (b := (B + 518)) (As := [.int ((X 0).2 1), .int ((X 0).2 2)]) (st := []) rfl cv_RL_180 rfl (by decide) (show 6 ≤ _ by have := hL.1.z.1; omega) (mo_W.lt w1) c1 rfl (Nat.le_of_ble_eq_true rfl) (s2 (B + 518) h1 w1 c1) (fun r h2 q => ?_)
  obtain ⟨rfl, e2⟩ := q
  obtain ⟨u9, c2⟩ := e2.2.1
  have l2 : B + 518 < h2.1 := Nat.lt_of_lt_of_le (mo_W.lt w1) e2.1
  change mi_WX _ pP X kL_law 9 29 294 1597 [(6, .int code), (5, .int 0), (4, .ref (B + 525)), (3, .ref (B + 524)), (2, .ref (B + 518)), (1, .ref B), (0, .ref 0)] [.double v] h2 _
  refine mi_blk okL_law_23 1 (pc' := 1599) (lv' := [(7, .double v), (6, .int code), (5, .int 0), (4, .ref (B + 525)), (3, .ref (B + 524)), (2, .ref (B + 518)), (1, .ref B), (0, .ref 0)]) (st' := []) rfl ?_
  refine mi_blk okL_law_23 1 (pc' := 1600) (lv' := [(7, .double v), (6, .int code), (5, .int 0), (4, .ref (B + 525)), (3, .ref (B + 524)), (2, .ref (B + 518)), (1, .ref B), (0, .ref 0)]) (st' := [.ref (B + 518)]) rfl ?_
  refine mi_callV okL_law_23 (mc := 29) (ms := 294) (mc' := 0) (ms' := 0) (b := (B + 518)) (As := []) (st := []) rfl cv_RL_97 rfl (by decide) (show 6 ≤ _ by have := hL.1.z.1; omega) l2 c2 rfl (Nat.le_of_ble_eq_true rfl) (m_thrown (show 6 ≤ B + 518 by have := hL.1.z.1; omega) l2 c2) (fun r h9 q => ?_)
  obtain ⟨rfl, e9⟩ := q; have e9 := e9.symm; subst e9
  change mi_WX _ pP X kL_law 9 29 294 1603 [(7, .double v), (6, .int code), (5, .int 0), (4, .ref (B + 525)), (3, .ref (B + 524)), (2, .ref (B + 518)), (1, .ref B), (0, .ref 0)] [.int code] h2 _
  refine mi_blk okL_law_23 1 (pc' := 1605) (lv' := [(7, .double v), (6, .int code), (5, .int 0), (4, .ref (B + 525)), (3, .ref (B + 524)), (2, .ref (B + 518)), (1, .ref B), (0, .ref 0)]) (st' := [.int code, .int code]) rfl ?_
  refine mi_ic_eq okL_law_23 rfl rfl (fun c_1605 => ?_) (fun c_1605 => absurd rfl c_1605)
  refine mi_blk okL_law_23 1 (pc' := 1612) (lv' := [(7, .double v), (6, .int code), (5, .int 0), (4, .ref (B + 525)), (3, .ref (B + 524)), (2, .ref (B + 518)), (1, .ref B), (0, .ref 0)]) (st' := [.int code]) rfl ?_
  refine mi_if_ne okL_law_23 rfl rfl (fun c_1612 => ?_) (fun c_1612 => ?_)
  · refine mi_blk okL_law_24 1 (pc' := 1732) (lv' := [(7, .double v), (6, .int code), (5, .int 0), (4, .ref (B + 525)), (3, .ref (B + 524)), (2, .ref (B + 518)), (1, .ref B), (0, .ref 0)]) (st' := []) rfl ?_
    exact mi_WX.locs (lv' := [(5, .int 0), (0, .ref 0)]) (by simp) (l_end hX5)
  · have e3 := hL.out (O := (B + 525)) (by omega) e1 e2 c_1612
    refine mi_blk okL_law_23 1 (pc' := 1617) (lv' := [(7, .double v), (6, .int code), (5, .int 0), (4, .ref (B + 525)), (3, .ref (B + 524)), (2, .ref (B + 518)), (1, .ref B), (0, .ref 0)]) (st' := [.ref (B + 525)]) rfl ?_
    refine mi_blk okL_law_23 1 (pc' := 1618) (lv' := [(7, .double v), (6, .int code), (5, .int 0), (4, .ref (B + 525)), (3, .ref (B + 524)), (2, .ref (B + 518)), (1, .ref B), (0, .ref 0)]) (st' := [.int 0, .ref (B + 525)]) rfl ?_
    refine mo_dld okL_law_23 rfl (show 6 ≤ _ by have := hL.1.z.1; omega) e3.1 e3.2 ?_
    change mi_WX _ pP X kL_law 9 29 294 1619 [(7, .double v), (6, .int code), (5, .int 0), (4, .ref (B + 525)), (3, .ref (B + 524)), (2, .ref (B + 518)), (1, .ref B), (0, .ref 0)] [.double v] h2 _
    refine mi_blk okL_law_23 2 (pc' := 1622) (lv' := [(7, .double v), (6, .int code), (5, .int 0), (4, .ref (B + 525)), (3, .ref (B + 524)), (2, .ref (B + 518)), (1, .ref B), (0, .ref 0)]) (st' := [.int (Op.cmpValue (FP.dcmp v v) .l)]) rfl ?_
    refine mi_if_eq okL_law_23 rfl rfl (fun c_1622 => ?_) (fun c_1622 => ?_)
    · refine mi_blk okL_law_24 1 (pc' := 1732) (lv' := [(7, .double v), (6, .int code), (5, .int 0), (4, .ref (B + 525)), (3, .ref (B + 524)), (2, .ref (B + 518)), (1, .ref B), (0, .ref 0)]) (st' := []) rfl ?_
      exact mi_WX.locs (lv' := [(5, .int 0), (0, .ref 0)]) (by simp) (l_end hX5)
    · refine mi_blk okL_law_24 2 (pc' := 1628) (lv' := [(7, .double v), (6, .int code), (5, .int 0), (4, .ref (B + 525)), (3, .ref (B + 524)), (2, .ref (B + 518)), (1, .ref B), (0, .ref 0)]) (st' := [.int 0, .ref (B + 525)]) rfl ?_
      refine mo_dld okL_law_24 rfl (show 6 ≤ _ by have := hL.1.z.1; omega) e3.1 e3.2 ?_
      change mi_WX _ pP X kL_law 9 29 294 1629 [(7, .double v), (6, .int code), (5, .int 0), (4, .ref (B + 525)), (3, .ref (B + 524)), (2, .ref (B + 518)), (1, .ref B), (0, .ref 0)] [.double v] h2 _
      refine mi_blk okL_law_24 2 (pc' := 1632) (lv' := [(7, .double v), (6, .int code), (5, .int 0), (4, .ref (B + 525)), (3, .ref (B + 524)), (2, .ref (B + 518)), (1, .ref B), (0, .ref 0)]) (st' := [.int 0, .ref (B + 525), .double v]) rfl ?_
      refine mo_dld okL_law_24 rfl (show 6 ≤ _ by have := hL.1.z.1; omega) e3.1 e3.2 ?_
      change mi_WX _ pP X kL_law 9 29 294 1633 [(7, .double v), (6, .int code), (5, .int 0), (4, .ref (B + 525)), (3, .ref (B + 524)), (2, .ref (B + 518)), (1, .ref B), (0, .ref 0)] [.double v, .double v] h2 _
      refine mi_blk okL_law_24 1 (pc' := 1634) (lv' := [(7, .double v), (6, .int code), (5, .int 0), (4, .ref (B + 525)), (3, .ref (B + 524)), (2, .ref (B + 518)), (1, .ref B), (0, .ref 0)]) (st' := [.int (Op.cmpValue (FP.dcmp v v) .l)]) rfl ?_
      refine mi_if_eq okL_law_24 rfl rfl (fun c_1634 => absurd c_1634 c_1622) (fun c_1634 => ?_)
      refine mi_blk okL_law_24 3 (pc' := 1642) (lv' := [(7, .double v), (6, .int code), (5, .int 0), (4, .ref (B + 525)), (3, .ref (B + 524)), (2, .ref (B + 518)), (1, .ref B), (0, .ref 0)]) (st' := [.int (Op.cmpValue (FP.dcmp v v) .l)]) rfl ?_
      refine mi_if_ne okL_law_24 rfl rfl (fun c_1642 => ?_) (fun c_1642 => absurd c_1642 c_1622)
      refine mi_blk okL_law_24 1 (pc' := 1732) (lv' := [(7, .double v), (6, .int code), (5, .int 0), (4, .ref (B + 525)), (3, .ref (B + 524)), (2, .ref (B + 518)), (1, .ref B), (0, .ref 0)]) (st' := []) rfl ?_
      exact mi_WX.locs (lv' := [(5, .int 0), (0, .ref 0)]) (by simp) (l_end hX5)
set_option maxHeartbeats 4000000 in
set_option maxRecDepth 100000 in
theorem w_wouldMend {X : mi_X} (hX5 : (X 0).1 = 5) (hX1 : mi_X1 X) (hX : mi_X23 X) {B : Nat} {h : mi_H} (hL : LC B h) : mi_W pP X kL_law 9 30 300 1650 [(5, .int 0), (4, .ref (B + 525)), (3, .ref (B + 524)), (2, .ref (B + 518)), (1, .ref B), (0, .ref 0)] [] h (fun r _ => r = some (.int 1)) := by
  refine mi_blk okL_law_24 5 (pc' := 1656) (lv' := [(5, .int 0), (4, .ref (B + 525)), (3, .ref (B + 524)), (2, .ref (B + 518)), (1, .ref B), (0, .ref 0)]) (st' := [.int 1, .ref 0, .ref B]) rfl ?_
  refine lw_ld okL_law_24 hX5 1 rfl rfl (by decide) ?_
  refine mi_blk okL_law_24 4 (pc' := 1662) (lv' := [(5, .int 0), (4, .ref (B + 525)), (3, .ref (B + 524)), (2, .ref (B + 518)), (1, .ref B), (0, .ref 0)]) (st' := [.int 2, .ref 0, .int ((X 0).2 1), .ref B]) rfl ?_
  refine lw_ld okL_law_24 hX5 2 rfl rfl (by decide) ?_
  refine mi_blk okL_law_24 1 (pc' := 1664) (lv' := [(5, .int 0), (4, .ref (B + 525)), (3, .ref (B + 524)), (2, .ref (B + 518)), (1, .ref B), (0, .ref 0)]) (st' := [.ref (B + 524), .int ((X 0).2 2), .int ((X 0).2 1), .ref B]) rfl ?_
  obtain ⟨code, v, s1, s2⟩ := a_wouldMend (X := X) hX1 hX hL.1 (O := (B + 524)) (show B + 518 ≤ (B + 524) ∧ (B + 524) < h.1 by rw [hL.2.2.2.2.2]; omega) hL.2.2.2.1 ((X 0).2 1) ((X 0).2 2)
  refine mi_callSH okL_law_24 (mc := 29) (ms := 294) (mc' := 1) (ms' := 6) (As := [.ref B, .int ((X 0).2 1), .int ((X 0).2 2), .ref (B + 524)]) (st := []) rfl ch_RL_181 rfl (by decide) (Nat.le_of_ble_eq_true rfl) s1 (fun r h1 q => ?_)
  obtain ⟨rfl, e1⟩ := q
  obtain ⟨w1, c1⟩ := hL.mo (by omega) e1
  change mi_WX _ pP X kL_law 9 29 294 1667 [(5, .int 0), (4, .ref (B + 525)), (3, .ref (B + 524)), (2, .ref (B + 518)), (1, .ref B), (0, .ref 0)] [.int code] h1 _
  refine mi_blk okL_law_24 1 (pc' := 1669) (lv' := [(6, .int code), (5, .int 0), (4, .ref (B + 525)), (3, .ref (B + 524)), (2, .ref (B + 518)), (1, .ref B), (0, .ref 0)]) (st' := []) rfl ?_
  refine mi_blk okL_law_24 5 (pc' := 1675) (lv' := [(6, .int code), (5, .int 0), (4, .ref (B + 525)), (3, .ref (B + 524)), (2, .ref (B + 518)), (1, .ref B), (0, .ref 0)]) (st' := [.int 1, .ref 0, .ref (B + 518)]) rfl ?_
  refine lw_ld okL_law_24 hX5 1 rfl rfl (by decide) ?_
  refine mi_blk okL_law_24 4 (pc' := 1681) (lv' := [(6, .int code), (5, .int 0), (4, .ref (B + 525)), (3, .ref (B + 524)), (2, .ref (B + 518)), (1, .ref B), (0, .ref 0)]) (st' := [.int 2, .ref 0, .int ((X 0).2 1), .ref (B + 518)]) rfl ?_
  refine lw_ld okL_law_24 hX5 2 rfl rfl (by decide) ?_
  refine mi_callV okL_law_25 (mc := 29) (ms := 294) (mc' := 0) (ms' := 0) (b := (B + 518)) (As := [.int ((X 0).2 1), .int ((X 0).2 2)]) (st := []) rfl cv_RL_183 rfl (by decide) (show 6 ≤ _ by have := hL.1.z.1; omega) (mo_W.lt w1) c1 rfl (Nat.le_of_ble_eq_true rfl) (s2 (B + 518) h1 w1 c1) (fun r h2 q => ?_)
  obtain ⟨rfl, e2⟩ := q
  obtain ⟨u9, c2⟩ := e2.2.1
  have l2 : B + 518 < h2.1 := Nat.lt_of_lt_of_le (mo_W.lt w1) e2.1
  change mi_WX _ pP X kL_law 9 29 294 1685 [(6, .int code), (5, .int 0), (4, .ref (B + 525)), (3, .ref (B + 524)), (2, .ref (B + 518)), (1, .ref B), (0, .ref 0)] [.int v] h2 _
  refine mi_blk okL_law_25 1 (pc' := 1687) (lv' := [(7, .int v), (6, .int code), (5, .int 0), (4, .ref (B + 525)), (3, .ref (B + 524)), (2, .ref (B + 518)), (1, .ref B), (0, .ref 0)]) (st' := []) rfl ?_
  refine mi_blk okL_law_25 1 (pc' := 1688) (lv' := [(7, .int v), (6, .int code), (5, .int 0), (4, .ref (B + 525)), (3, .ref (B + 524)), (2, .ref (B + 518)), (1, .ref B), (0, .ref 0)]) (st' := [.ref (B + 518)]) rfl ?_
  refine mi_callV okL_law_25 (mc := 29) (ms := 294) (mc' := 0) (ms' := 0) (b := (B + 518)) (As := []) (st := []) rfl cv_RL_97 rfl (by decide) (show 6 ≤ _ by have := hL.1.z.1; omega) l2 c2 rfl (Nat.le_of_ble_eq_true rfl) (m_thrown (show 6 ≤ B + 518 by have := hL.1.z.1; omega) l2 c2) (fun r h9 q => ?_)
  obtain ⟨rfl, e9⟩ := q; have e9 := e9.symm; subst e9
  change mi_WX _ pP X kL_law 9 29 294 1691 [(7, .int v), (6, .int code), (5, .int 0), (4, .ref (B + 525)), (3, .ref (B + 524)), (2, .ref (B + 518)), (1, .ref B), (0, .ref 0)] [.int code] h2 _
  refine mi_blk okL_law_25 1 (pc' := 1693) (lv' := [(7, .int v), (6, .int code), (5, .int 0), (4, .ref (B + 525)), (3, .ref (B + 524)), (2, .ref (B + 518)), (1, .ref B), (0, .ref 0)]) (st' := [.int code, .int code]) rfl ?_
  refine mi_ic_eq okL_law_25 rfl rfl (fun c_1693 => ?_) (fun c_1693 => absurd rfl c_1693)
  refine mi_blk okL_law_25 1 (pc' := 1700) (lv' := [(7, .int v), (6, .int code), (5, .int 0), (4, .ref (B + 525)), (3, .ref (B + 524)), (2, .ref (B + 518)), (1, .ref B), (0, .ref 0)]) (st' := [.int code]) rfl ?_
  refine mi_if_ne okL_law_25 rfl rfl (fun c_1700 => ?_) (fun c_1700 => ?_)
  · refine mi_blk okL_law_25 1 (pc' := 1732) (lv' := [(7, .int v), (6, .int code), (5, .int 0), (4, .ref (B + 525)), (3, .ref (B + 524)), (2, .ref (B + 518)), (1, .ref B), (0, .ref 0)]) (st' := []) rfl ?_
    exact mi_WX.locs (lv' := [(5, .int 0), (0, .ref 0)]) (by simp) (l_end hX5)
  · have e3 := hL.out (O := (B + 524)) (by omega) e1 e2 c_1700
    refine mi_blk okL_law_25 1 (pc' := 1704) (lv' := [(7, .int v), (6, .int code), (5, .int 0), (4, .ref (B + 525)), (3, .ref (B + 524)), (2, .ref (B + 518)), (1, .ref B), (0, .ref 0)]) (st' := [.ref (B + 524)]) rfl ?_
    refine mi_blk okL_law_25 1 (pc' := 1705) (lv' := [(7, .int v), (6, .int code), (5, .int 0), (4, .ref (B + 525)), (3, .ref (B + 524)), (2, .ref (B + 518)), (1, .ref B), (0, .ref 0)]) (st' := [.int 0, .ref (B + 524)]) rfl ?_
    refine mo_lld okL_law_25 rfl (show 6 ≤ _ by have := hL.1.z.1; omega) e3.1 e3.2 ?_
    change mi_WX _ pP X kL_law 9 29 294 1706 [(7, .int v), (6, .int code), (5, .int 0), (4, .ref (B + 525)), (3, .ref (B + 524)), (2, .ref (B + 518)), (1, .ref B), (0, .ref 0)] [.long v.toInt64] h2 _
    refine mi_blk okL_law_25 3 (pc' := 1710) (lv' := [(7, .int v), (6, .int code), (5, .int 0), (4, .ref (B + 525)), (3, .ref (B + 524)), (2, .ref (B + 518)), (1, .ref B), (0, .ref 0)]) (st' := [.int (lg_cmp v.toInt64 v.toInt64)]) rfl ?_
    refine mi_if_eq okL_law_25 rfl rfl (fun c_1710 => ?_) (fun c_1710 => absurd (lg_cmp_self _) c_1710)
    refine mi_blk okL_law_25 1 (pc' := 1732) (lv' := [(7, .int v), (6, .int code), (5, .int 0), (4, .ref (B + 525)), (3, .ref (B + 524)), (2, .ref (B + 518)), (1, .ref B), (0, .ref 0)]) (st' := []) rfl ?_
    exact mi_WX.locs (lv' := [(5, .int 0), (0, .ref 0)]) (by simp) (l_end hX5)
theorem ph_dig0 : ph_dig ph_0 0 0 = (-8771326024716431228) := by decide +kernel
set_option maxHeartbeats 4000000 in
set_option maxRecDepth 100000 in
theorem w_tray {X : mi_X} (hX5 : (X 0).1 = 5) (hX1 : mi_X1 X) (hX : mi_X23 X) {B : Nat} {h : mi_H} (hL : LC B h) : mi_W pP X kL_law 9 30 300 756 [(5, .int 0), (4, .ref (B + 525)), (3, .ref (B + 524)), (2, .ref (B + 518)), (1, .ref B), (0, .ref 0)] [] h (fun r _ => r = some (.int 1)) := by
  refine mi_blk okL_law_10 5 (pc' := 762) (lv' := [(5, .int 0), (4, .ref (B + 525)), (3, .ref (B + 524)), (2, .ref (B + 518)), (1, .ref B), (0, .ref 0)]) (st' := [.int 1, .ref 0, .ref B]) rfl ?_
  refine lw_ld okL_law_10 hX5 1 rfl rfl (by decide) ?_
  refine mi_if_eq okL_law_10 rfl rfl (fun c_763 => ?_) (fun c_763 => ?_)
  · refine mi_blk okL_law_10 1 (pc' := 771) (lv' := [(5, .int 0), (4, .ref (B + 525)), (3, .ref (B + 524)), (2, .ref (B + 518)), (1, .ref B), (0, .ref 0)]) (st' := [.int 0, .ref B]) rfl ?_
    refine mi_callV okL_law_10 (mc := 30) (ms := 300) (mc' := 0) (ms' := 0) (b := B) (As := [.int 0]) (st := []) rfl cv_RL_131 rfl (by decide) hL.1.z.1 (show B < h.1 by rw [hL.2.2.2.2.2]; omega) hL.1.ph rfl (Nat.le_of_ble_eq_true rfl) (f_tray hL.1 (Or.inl rfl)) (fun r h1 q => ?_)
    obtain ⟨w1, c1⟩ := hL.fr (show fr B h h1 from (q.2))
    obtain ⟨rfl, -⟩ := q
    change mi_WX _ pP X kL_law 9 30 300 774 [(5, .int 0), (4, .ref (B + 525)), (3, .ref (B + 524)), (2, .ref (B + 518)), (1, .ref B), (0, .ref 0)] [.int 0] h1 _
    refine mi_blk okL_law_10 1 (pc' := 775) (lv' := [(5, .int 0), (4, .ref (B + 525)), (3, .ref (B + 524)), (2, .ref (B + 518)), (1, .ref B), (0, .ref 0)]) (st' := [.ref (B + 518), .int 0]) rfl ?_
    refine mi_blk okL_law_10 4 (pc' := 780) (lv' := [(5, .int 0), (4, .ref (B + 525)), (3, .ref (B + 524)), (2, .ref (B + 518)), (1, .ref B), (0, .ref 0)]) (st' := [.int 1, .ref 0, .ref (B + 518), .int 0]) rfl ?_
    refine lw_ld okL_law_10 hX5 1 rfl rfl (by decide) ?_
    refine mi_if_eq okL_law_10 rfl rfl (fun c_781 => ?_) (fun c_781 => absurd c_763 c_781)
    refine mi_blk okL_law_10 1 (pc' := 789) (lv' := [(5, .int 0), (4, .ref (B + 525)), (3, .ref (B + 524)), (2, .ref (B + 518)), (1, .ref B), (0, .ref 0)]) (st' := [.int 0, .ref (B + 518), .int 0]) rfl ?_
    refine mi_callV okL_law_10 (mc := 30) (ms := 300) (mc' := 0) (ms' := 0) (b := (B + 518)) (As := [.int 0]) (st := [.int 0]) rfl cv_RL_135 rfl (by decide) (show 6 ≤ _ by have := hL.1.z.1; omega) (mo_W.lt w1) c1 rfl (Nat.le_of_ble_eq_true rfl) (m_tray w1 c1 (Or.inl rfl)) (fun r h2 q => ?_)
    obtain ⟨rfl, -⟩ := q
    change mi_WX _ pP X kL_law 9 30 300 792 [(5, .int 0), (4, .ref (B + 525)), (3, .ref (B + 524)), (2, .ref (B + 518)), (1, .ref B), (0, .ref 0)] [.int 0, .int 0] h2 _
    refine mi_ic_eq okL_law_10 rfl rfl (fun c_792 => ?_) (fun c_792 => absurd (by decide) c_792)
    exact mi_WX.locs (lv' := [(5, .int 0), (0, .ref 0)]) (by simp) (l_end hX5)
  · refine mi_blk okL_law_10 2 (pc' := 771) (lv' := [(5, .int 0), (4, .ref (B + 525)), (3, .ref (B + 524)), (2, .ref (B + 518)), (1, .ref B), (0, .ref 0)]) (st' := [.int 1, .ref B]) rfl ?_
    refine mi_callV okL_law_10 (mc := 30) (ms := 300) (mc' := 0) (ms' := 0) (b := B) (As := [.int 1]) (st := []) rfl cv_RL_131 rfl (by decide) hL.1.z.1 (show B < h.1 by rw [hL.2.2.2.2.2]; omega) hL.1.ph rfl (Nat.le_of_ble_eq_true rfl) (f_tray hL.1 (Or.inr rfl)) (fun r h1 q => ?_)
    obtain ⟨w1, c1⟩ := hL.fr (show fr B h h1 from (q.2))
    obtain ⟨rfl, -⟩ := q
    change mi_WX _ pP X kL_law 9 30 300 774 [(5, .int 0), (4, .ref (B + 525)), (3, .ref (B + 524)), (2, .ref (B + 518)), (1, .ref B), (0, .ref 0)] [.int 0] h1 _
    refine mi_blk okL_law_10 1 (pc' := 775) (lv' := [(5, .int 0), (4, .ref (B + 525)), (3, .ref (B + 524)), (2, .ref (B + 518)), (1, .ref B), (0, .ref 0)]) (st' := [.ref (B + 518), .int 0]) rfl ?_
    refine mi_blk okL_law_10 4 (pc' := 780) (lv' := [(5, .int 0), (4, .ref (B + 525)), (3, .ref (B + 524)), (2, .ref (B + 518)), (1, .ref B), (0, .ref 0)]) (st' := [.int 1, .ref 0, .ref (B + 518), .int 0]) rfl ?_
    refine lw_ld okL_law_10 hX5 1 rfl rfl (by decide) ?_
    refine mi_if_eq okL_law_10 rfl rfl (fun c_781 => absurd c_781 c_763) (fun c_781 => ?_)
    refine mi_blk okL_law_10 2 (pc' := 789) (lv' := [(5, .int 0), (4, .ref (B + 525)), (3, .ref (B + 524)), (2, .ref (B + 518)), (1, .ref B), (0, .ref 0)]) (st' := [.int 1, .ref (B + 518), .int 0]) rfl ?_
    refine mi_callV okL_law_10 (mc := 30) (ms := 300) (mc' := 0) (ms' := 0) (b := (B + 518)) (As := [.int 1]) (st := [.int 0]) rfl cv_RL_135 rfl (by decide) (show 6 ≤ _ by have := hL.1.z.1; omega) (mo_W.lt w1) c1 rfl (Nat.le_of_ble_eq_true rfl) (m_tray w1 c1 (Or.inr rfl)) (fun r h2 q => ?_)
    obtain ⟨rfl, -⟩ := q
    change mi_WX _ pP X kL_law 9 30 300 792 [(5, .int 0), (4, .ref (B + 525)), (3, .ref (B + 524)), (2, .ref (B + 518)), (1, .ref B), (0, .ref 0)] [.int 0, .int 0] h2 _
    refine mi_ic_eq okL_law_10 rfl rfl (fun c_792 => ?_) (fun c_792 => absurd (by decide) c_792)
    exact mi_WX.locs (lv' := [(5, .int 0), (0, .ref 0)]) (by simp) (l_end hX5)
set_option maxHeartbeats 4000000 in
set_option maxRecDepth 100000 in
theorem w_push {X : mi_X} (hX5 : (X 0).1 = 5) (hX1 : mi_X1 X) (hX : mi_X23 X) {B : Nat} {h : mi_H} (hL : LC B h) : mi_W pP X kL_law 9 30 300 797 [(5, .int 0), (4, .ref (B + 525)), (3, .ref (B + 524)), (2, .ref (B + 518)), (1, .ref B), (0, .ref 0)] [] h (fun r _ => r = some (.int 1)) := by
  refine mi_blk okL_law_11 1 (pc' := 798) (lv' := [(5, .int 0), (4, .ref (B + 525)), (3, .ref (B + 524)), (2, .ref (B + 518)), (1, .ref B), (0, .ref 0)]) (st' := [.ref B]) rfl ?_
  refine mi_callV okL_law_11 (mc := 30) (ms := 300) (mc' := 0) (ms' := 0) (b := B) (As := []) (st := []) rfl cv_RL_136 rfl (by decide) hL.1.z.1 (show B < h.1 by rw [hL.2.2.2.2.2]; omega) hL.1.ph rfl (Nat.le_of_ble_eq_true rfl) (f_push hL.1) (fun r h1 q => ?_)
  obtain ⟨w1, c1⟩ := hL.fr (show fr B h h1 from (q.2))
  obtain ⟨rfl, -⟩ := q
  change mi_WX _ pP X kL_law 9 30 300 801 [(5, .int 0), (4, .ref (B + 525)), (3, .ref (B + 524)), (2, .ref (B + 518)), (1, .ref B), (0, .ref 0)] [.int 1] h1 _
  refine mi_blk okL_law_11 1 (pc' := 802) (lv' := [(5, .int 0), (4, .ref (B + 525)), (3, .ref (B + 524)), (2, .ref (B + 518)), (1, .ref B), (0, .ref 0)]) (st' := [.ref (B + 518), .int 1]) rfl ?_
  refine mi_callV okL_law_11 (mc := 30) (ms := 300) (mc' := 0) (ms' := 0) (b := (B + 518)) (As := []) (st := [.int 1]) rfl cv_RL_139 rfl (by decide) (show 6 ≤ _ by have := hL.1.z.1; omega) (mo_W.lt w1) c1 rfl (Nat.le_of_ble_eq_true rfl) (m_push w1 c1) (fun r h2 q => ?_)
  obtain ⟨rfl, -⟩ := q
  change mi_WX _ pP X kL_law 9 30 300 805 [(5, .int 0), (4, .ref (B + 525)), (3, .ref (B + 524)), (2, .ref (B + 518)), (1, .ref B), (0, .ref 0)] [.int 1, .int 1] h2 _
  refine mi_ic_eq okL_law_11 rfl rfl (fun c_805 => ?_) (fun c_805 => absurd (by decide) c_805)
  exact mi_WX.locs (lv' := [(5, .int 0), (0, .ref 0)]) (by simp) (l_end hX5)
set_option maxHeartbeats 4000000 in
set_option maxRecDepth 100000 in
theorem w_clock {X : mi_X} (hX5 : (X 0).1 = 5) (hX1 : mi_X1 X) (hX : mi_X23 X) {B : Nat} {h : mi_H} (hL : LC B h) : mi_W pP X kL_law 9 30 300 943 [(5, .int 0), (4, .ref (B + 525)), (3, .ref (B + 524)), (2, .ref (B + 518)), (1, .ref B), (0, .ref 0)] [] h (fun r _ => r = some (.int 1)) := by
  refine mi_blk okL_law_13 1 (pc' := 944) (lv' := [(5, .int 0), (4, .ref (B + 525)), (3, .ref (B + 524)), (2, .ref (B + 518)), (1, .ref B), (0, .ref 0)]) (st' := [.ref B]) rfl ?_
  refine mi_callV okL_law_13 (mc := 30) (ms := 300) (mc' := 0) (ms' := 0) (b := B) (As := []) (st := []) rfl cv_RL_147 rfl (by decide) hL.1.z.1 (show B < h.1 by rw [hL.2.2.2.2.2]; omega) hL.1.ph rfl (Nat.le_of_ble_eq_true rfl) (show mi_S pP X kX8_clock 0 [.ref B] h 0 0 (fun r h1 => r = some (.double FP.dconst0) ∧ h1 = h) from c_clock hL.1) (fun r h1 q => ?_)
  obtain ⟨w1, c1⟩ := hL.fr (show fr B h h1 from ⟨by rw [q.2], fun b _ => by rw [q.2]⟩)
  obtain ⟨rfl, -⟩ := q
  change mi_WX _ pP X kL_law 9 30 300 947 [(5, .int 0), (4, .ref (B + 525)), (3, .ref (B + 524)), (2, .ref (B + 518)), (1, .ref B), (0, .ref 0)] [.double FP.dconst0] h1 _
  refine mi_blk okL_law_13 1 (pc' := 949) (lv' := [(6, .double FP.dconst0), (5, .int 0), (4, .ref (B + 525)), (3, .ref (B + 524)), (2, .ref (B + 518)), (1, .ref B), (0, .ref 0)]) (st' := []) rfl ?_
  refine mi_blk okL_law_13 1 (pc' := 950) (lv' := [(6, .double FP.dconst0), (5, .int 0), (4, .ref (B + 525)), (3, .ref (B + 524)), (2, .ref (B + 518)), (1, .ref B), (0, .ref 0)]) (st' := [.ref (B + 518)]) rfl ?_
  refine mi_callV okL_law_13 (mc := 30) (ms := 300) (mc' := 0) (ms' := 0) (b := (B + 518)) (As := []) (st := []) rfl cv_RL_151 rfl (by decide) (show 6 ≤ _ by have := hL.1.z.1; omega) (mo_W.lt w1) c1 rfl (Nat.le_of_ble_eq_true rfl) (m_clock w1 c1) (fun r h2 q => ?_)
  obtain ⟨rfl, -⟩ := q
  change mi_WX _ pP X kL_law 9 30 300 953 [(6, .double FP.dconst0), (5, .int 0), (4, .ref (B + 525)), (3, .ref (B + 524)), (2, .ref (B + 518)), (1, .ref B), (0, .ref 0)] [.double FP.dconst0] h2 _
  refine mi_blk okL_law_13 1 (pc' := 955) (lv' := [(8, .double FP.dconst0), (6, .double FP.dconst0), (5, .int 0), (4, .ref (B + 525)), (3, .ref (B + 524)), (2, .ref (B + 518)), (1, .ref B), (0, .ref 0)]) (st' := []) rfl ?_
  refine mi_blk okL_law_13 3 (pc' := 960) (lv' := [(8, .double FP.dconst0), (6, .double FP.dconst0), (5, .int 0), (4, .ref (B + 525)), (3, .ref (B + 524)), (2, .ref (B + 518)), (1, .ref B), (0, .ref 0)]) (st' := [.int (Op.cmpValue (FP.dcmp FP.dconst0 FP.dconst0) .l)]) rfl ?_
  refine mi_if_eq okL_law_13 rfl rfl (fun c_960 => ?_) (fun c_960 => absurd (by decide +kernel) c_960)
  refine mi_blk okL_law_13 1 (pc' := 1732) (lv' := [(8, .double FP.dconst0), (6, .double FP.dconst0), (5, .int 0), (4, .ref (B + 525)), (3, .ref (B + 524)), (2, .ref (B + 518)), (1, .ref B), (0, .ref 0)]) (st' := []) rfl ?_
  exact mi_WX.locs (lv' := [(5, .int 0), (0, .ref 0)]) (by simp) (l_end hX5)
set_option maxHeartbeats 4000000 in
set_option maxRecDepth 100000 in
theorem w_digest {X : mi_X} (hX5 : (X 0).1 = 5) (hX1 : mi_X1 X) (hX : mi_X23 X) {B : Nat} {h : mi_H} (hL : LC B h) : mi_W pP X kL_law 9 30 300 1718 [(5, .int 0), (4, .ref (B + 525)), (3, .ref (B + 524)), (2, .ref (B + 518)), (1, .ref B), (0, .ref 0)] [] h (fun r _ => r = some (.int 1)) := by
  refine mi_blk okL_law_25 1 (pc' := 1719) (lv' := [(5, .int 0), (4, .ref (B + 525)), (3, .ref (B + 524)), (2, .ref (B + 518)), (1, .ref B), (0, .ref 0)]) (st' := [.ref B]) rfl ?_
  refine mi_callV okL_law_25 (mc := 30) (ms := 300) (mc' := 0) (ms' := 0) (b := B) (As := []) (st := []) rfl cv_RL_184 rfl (by decide) hL.1.z.1 (show B < h.1 by rw [hL.2.2.2.2.2]; omega) hL.1.ph rfl (Nat.le_of_ble_eq_true rfl) ((c_digest hL.1 (fun _ _ _ _ => rfl) (n := 0) ⟨by decide, rfl, fun t ht => absurd ht (by omega)⟩ (m := 0) (by decide) rfl).imp (Q' := fun r h1 => r = some (.long (-8771326024716431228)) ∧ h1 = h) (fun r h1 q => ⟨by rw [q.1, ph_dig0], q.2⟩)) (fun r h1 q => ?_)
  obtain ⟨w1, c1⟩ := hL.fr (show fr B h h1 from ⟨by rw [q.2], fun b _ => by rw [q.2]⟩)
  obtain ⟨rfl, -⟩ := q
  change mi_WX _ pP X kL_law 9 30 300 1722 [(5, .int 0), (4, .ref (B + 525)), (3, .ref (B + 524)), (2, .ref (B + 518)), (1, .ref B), (0, .ref 0)] [.long (-8771326024716431228)] h1 _
  refine mi_blk okL_law_25 1 (pc' := 1723) (lv' := [(5, .int 0), (4, .ref (B + 525)), (3, .ref (B + 524)), (2, .ref (B + 518)), (1, .ref B), (0, .ref 0)]) (st' := [.ref (B + 518), .long (-8771326024716431228)]) rfl ?_
  refine mi_callV okL_law_25 (mc := 4) (ms := 92) (mc' := 26) (ms' := 208) (b := (B + 518)) (As := []) (st := [.long (-8771326024716431228)]) rfl cv_RL_188 rfl (by decide) (show 6 ≤ _ by have := hL.1.z.1; omega) (mo_W.lt w1) c1 rfl (Nat.le_of_ble_eq_true rfl) (m_digest w1 c1) (fun r h2 q => ?_)
  obtain ⟨rfl, -⟩ := q
  change mi_WX _ pP X kL_law 9 4 92 1726 [(5, .int 0), (4, .ref (B + 525)), (3, .ref (B + 524)), (2, .ref (B + 518)), (1, .ref B), (0, .ref 0)] [.long (-8771326024716431228), .long (-8771326024716431228)] h2 _
  refine mi_blk okL_law_25 1 (pc' := 1727) (lv' := [(5, .int 0), (4, .ref (B + 525)), (3, .ref (B + 524)), (2, .ref (B + 518)), (1, .ref B), (0, .ref 0)]) (st' := [.int (lg_cmp (-8771326024716431228) (-8771326024716431228))]) rfl ?_
  refine mi_if_eq okL_law_25 rfl rfl (fun c_1727 => ?_) (fun c_1727 => absurd (lg_cmp_self _) c_1727)
  exact mi_WX.locs (lv' := [(5, .int 0), (0, .ref 0)]) (by simp) (l_end hX5)
theorem and31 (x : Int32) : ∃ j, j < 32 ∧ x &&& 31 = nI j := by
  have hn : (x &&& 31).toBitVec.toNat < 32 := by
    rw [Int32.toBitVec_and, BitVec.toNat_and]
    exact Nat.lt_of_le_of_lt Nat.and_le_right (by decide)
  have hi : (x &&& 31).toInt = ((x &&& 31).toBitVec.toNat : Int) := by
    show (x &&& 31).toBitVec.toInt = _
    rw [BitVec.toInt_eq_toNat_cond, if_pos (by omega)]
  rcases pk_ix (x &&& 31) (n := 32) (by decide) with c | c | ⟨j, hj, e⟩
  · exact absurd (i_lt0 c) (by omega)
  · exact absurd (i_gtT (n := 31) (by decide) c) (by omega)
  · exact ⟨j, hj, e⟩
set_option maxHeartbeats 4000000 in
set_option maxRecDepth 100000 in
theorem w_turn {X : mi_X} (hX5 : (X 0).1 = 5) (hX1 : mi_X1 X) (hX : mi_X23 X) {B : Nat} {h : mi_H} (hL : LC B h) : mi_W pP X kL_law 9 30 300 37 [(5, .int 0), (4, .ref (B + 525)), (3, .ref (B + 524)), (2, .ref (B + 518)), (1, .ref B), (0, .ref 0)] [] h (fun r _ => r = some (.int 1)) := by
  refine mi_blk okL_law_0 2 (pc' := 40) (lv' := [(5, .int 0), (4, .ref (B + 525)), (3, .ref (B + 524)), (2, .ref (B + 518)), (1, .ref B), (0, .ref 0)]) (st' := [.int 0, .ref 0]) rfl ?_
  refine lw_ld okL_law_0 hX5 0 rfl rfl (by decide) ?_
  refine mi_blk okL_law_0 2 (pc' := 44) (lv' := [(5, .int 0), (4, .ref (B + 525)), (3, .ref (B + 524)), (2, .ref (B + 518)), (1, .ref B), (0, .ref 0)]) (st' := [.int ((X 0).2 0 &&& 31)]) rfl ?_
  obtain ⟨j, hj, e⟩ := and31 ((X 0).2 0)
  rw [e]
  rcases (show j = 0 ∨ j = 1 ∨ j = 2 ∨ j = 3 ∨ j = 4 ∨ j = 5 ∨ j = 6 ∨ j = 7 ∨ j = 8 ∨ j = 9 ∨ j = 10 ∨ j = 11 ∨ j = 12 ∨ j = 13 ∨ j = 14 ∨ j = 15 ∨ j = 16 ∨ j = 17 ∨ j = 18 ∨ j = 19 ∨ j = 20 ∨ j = 21 ∨ j = 22 ∨ j = 23 ∨ j = 24 ∨ 25 ≤ j by omega) with rfl | rfl | rfl | rfl | rfl | rfl | rfl | rfl | rfl | rfl | rfl | rfl | rfl | rfl | rfl | rfl | rfl | rfl | rfl | rfl | rfl | rfl | rfl | rfl | rfl | c
  · refine mi_swin swL_law_44 (x := nI 0) (by decide) (by decide) rfl rfl ?_
    exact w_session hX5 hX1 hX hL
  · refine mi_swin swL_law_44 (x := nI 1) (by decide) (by decide) rfl rfl ?_
    exact w_track hX5 hX1 hX hL
  · refine mi_swin swL_law_44 (x := nI 2) (by decide) (by decide) rfl rfl ?_
    exact w_write hX5 hX1 hX hL
  · refine mi_swin swL_law_44 (x := nI 3) (by decide) (by decide) rfl rfl ?_
    exact w_starve hX5 hX1 hX hL
  · refine mi_swin swL_law_44 (x := nI 4) (by decide) (by decide) rfl rfl ?_
    exact w_close hX5 hX1 hX hL
  · refine mi_swin swL_law_44 (x := nI 5) (by decide) (by decide) rfl rfl ?_
    exact w_end hX5 hX1 hX hL
  · refine mi_swin swL_law_44 (x := nI 6) (by decide) (by decide) rfl rfl ?_
    exact w_file hX5 hX1 hX hL
  · refine mi_swin swL_law_44 (x := nI 7) (by decide) (by decide) rfl rfl ?_
    exact w_scratch hX5 hX1 hX hL
  · refine mi_swin swL_law_44 (x := nI 8) (by decide) (by decide) rfl rfl ?_
    exact w_rot hX5 hX1 hX hL
  · refine mi_swin swL_law_44 (x := nI 9) (by decide) (by decide) rfl rfl ?_
    exact w_tray hX5 hX1 hX hL
  · refine mi_swin swL_law_44 (x := nI 10) (by decide) (by decide) rfl rfl ?_
    exact w_push hX5 hX1 hX hL
  · refine mi_swin swL_law_44 (x := nI 11) (by decide) (by decide) rfl rfl ?_
    exact w_read hX5 hX1 hX hL
  · refine mi_swin swL_law_44 (x := nI 12) (by decide) (by decide) rfl rfl ?_
    exact w_seek hX5 hX1 hX hL
  · refine mi_swin swL_law_44 (x := nI 13) (by decide) (by decide) rfl rfl ?_
    exact w_clock hX5 hX1 hX hL
  · refine mi_swin swL_law_44 (x := nI 14) (by decide) (by decide) rfl rfl ?_
    exact w_angle hX5 hX1 hX hL
  · refine mi_swin swL_law_44 (x := nI 15) (by decide) (by decide) rfl rfl ?_
    exact w_ofSector hX5 hX1 hX hL
  · refine mi_swin swL_law_44 (x := nI 16) (by decide) (by decide) rfl rfl ?_
    exact w_nibbles hX5 hX1 hX hL
  · refine mi_swin swL_law_44 (x := nI 17) (by decide) (by decide) rfl rfl ?_
    exact w_place hX5 hX1 hX hL
  · refine mi_swin swL_law_44 (x := nI 18) (by decide) (by decide) rfl rfl ?_
    exact w_ofTrack hX5 hX1 hX hL
  · refine mi_swin swL_law_44 (x := nI 19) (by decide) (by decide) rfl rfl ?_
    exact w_ofFile hX5 hX1 hX hL
  · refine mi_swin swL_law_44 (x := nI 20) (by decide) (by decide) rfl rfl ?_
    exact w_play hX5 hX1 hX hL
  · refine mi_swin swL_law_44 (x := nI 21) (by decide) (by decide) rfl rfl ?_
    exact w_many hX5 hX1 hX hL
  · refine mi_swin swL_law_44 (x := nI 22) (by decide) (by decide) rfl rfl ?_
    exact w_wouldTake hX5 hX1 hX hL
  · refine mi_swin swL_law_44 (x := nI 23) (by decide) (by decide) rfl rfl ?_
    exact w_wouldMend hX5 hX1 hX hL
  · refine mi_swin swL_law_44 (x := nI 24) (by decide) (by decide) rfl rfl ?_
    exact w_digest hX5 hX1 hX hL
  · refine mi_swout swL_law_44 (x := nI j) (Or.inr (by rw [nI_toInt (by omega)]; omega)) rfl ?_
    exact mi_WX.locs (lv' := [(5, .int 0), (0, .ref 0)]) (by simp) (l_end hX5)
theorem LC.of {B : Nat} {h1 h2 : mi_H} (hw : ph_W B ph_0 (fun _ _ => 0) (fun _ _ => 0) h1) (s1 : h1.1 = B + 518) (s2 : h2.1 = B + 518 + 6) (w2 : mo_W (B + 518) h2) (c2 : h2.2 (B + 518) = mo_c (B + 518) 0 mo_0) (old : ∀ b, b < B + 518 → h2.2 b = h1.2 b) : LC B (mi_psh (mi_psh h2 (oL (fun _ => 0))) (oD (fun _ => 0))) := by
  have n2 : ∀ b, b < B + 524 → (mi_psh (mi_psh h2 (oL (fun _ => 0))) (oD (fun _ => 0))).2 b = h2.2 b := fun b hb => (mi_psh_lt (show b < h2.1 + 1 by omega)).trans (mi_psh_lt (by omega))
  have n1 : ∀ b, b < B + 518 → (mi_psh (mi_psh h2 (oL (fun _ => 0))) (oD (fun _ => 0))).2 b = h1.2 b := fun b hb => (n2 b (by omega)).trans (old b hb)
  refine ⟨?_, ((w2.psh _).psh _), (n2 _ (by omega)).trans c2, ?_, ?_, ?_⟩
  · obtain ⟨hz, hp, hs, ht, hf, hff, hfl, hfi, hle, hd, hbe, hc, hm, hS, hB, hT⟩ := hw
    exact ⟨⟨hz.1, by show B + 518 ≤ h2.1 + 1 + 1; omega⟩, ((n1 _ (by omega)).trans hp), (let ⟨f, f1, f2⟩ := hs; ⟨f, (n1 _ (by omega)).trans f1, f2⟩), (let ⟨f, f1, f2⟩ := ht; ⟨f, (n1 _ (by omega)).trans f1, f2⟩), ((n1 _ (by omega)).trans hf), (let ⟨f, f1, f2⟩ := hff; ⟨f, (n1 _ (by omega)).trans f1, f2⟩), (let ⟨f, f1, f2⟩ := hfl; ⟨f, (n1 _ (by omega)).trans f1, f2⟩), (fun i hi => (n1 _ (by omega)).trans (hfi i hi)), (fun i hi => (n1 _ (by omega)).trans (hle i hi)), ((n1 _ (by omega)).trans hd), ((n1 _ (by omega)).trans hbe), ((n1 _ (by omega)).trans hc), ((n1 _ (by omega)).trans hm), (fun i hi => (n1 _ (by omega)).trans (hS i hi)), (fun i hi => (n1 _ (by omega)).trans (hB i hi)), (fun i hi => (n1 _ (by omega)).trans (hT i hi))⟩
  · rw [show B + 524 = h2.1 by omega]
    exact (mi_psh_lt (Nat.lt_succ_self _)).trans mi_psh_self
  · rw [show B + 525 = (mi_psh h2 (oL (fun _ => 0))).1 by show _ = h2.1 + 1; omega]
    exact mi_psh_self
  · show h2.1 + 1 + 1 = _
    omega
set_option maxHeartbeats 4000000 in
set_option maxRecDepth 100000 in
theorem c_law {X : mi_X} (hX0 : (X 0).1 ≤ 5) (hX1 : mi_X1 X) (hX : mi_X23 X) {B : Nat} {f0 : Nat → mi_C} (hE : 6 ≤ B) : mi_W pP X kL_law 9 556 4332 0 [(0, .ref 0)] [] (B, f0) (fun r _ => r = some (.int 1)) := by
  refine mi_new okL_law_0 (mc := 555) (ms := 4322) (ci := 0) (fs := [.null, .null, .null, .null, .null, .int 0, .int 0, .int 0, .int 0, .int 0]) rfl cfX8 cl_RL_8 it_RX8 iz_RX8 (by decide +kernel) (fun _ => rfl) ?_
  change mi_W pP X kL_law 9 555 4322 3 [(0, .ref 0)] [.ref B] (B + 1, va_up f0 B (.inr (0, [.null, .null, .null, .null, .null, .int 0, .int 0, .int 0, .int 0, .int 0]))) _
  refine mi_blk okL_law_0 1 (pc' := 4) (lv' := [(0, .ref 0)]) (st' := [.ref B, .ref B]) rfl ?_
  refine mi_callI okL_law_0 (mc := 38) (ms := 1043) (mc' := 517) (ms' := 3279) (b := B) (As := []) (st := [.ref B]) rfl ci_RL_87 rfl (by decide) (Nat.le_of_ble_eq_true rfl) (c_init (a := B) (f0 := va_up f0 B (.inr (0, [.null, .null, .null, .null, .null, .int 0, .int 0, .int 0, .int 0, .int 0]))) hE (if_pos rfl)) (fun r h1 q => ?_)
  obtain ⟨rfl, s1, w1, -⟩ := q
  change mi_W pP X kL_law 9 38 1043 7 [(0, .ref 0)] [.ref B] h1 _
  refine mi_blk okL_law_0 1 (pc' := 8) (lv' := [(1, .ref B), (0, .ref 0)]) (st' := []) rfl ?_
  refine mi_new okL_law_0 (mc := 37) (ms := 1028) (ci := 9) (fs := [.int 0, .null, .null, .null, .null, .int 0, .int 0, .int 0, .int 0, .null, .int 0, .double 0, .int 0, .int 0, .int 0]) rfl cfX9 cl_RL_88 it_RX9 iz_RX9 (by decide +kernel) (fun _ => rfl) ?_
  obtain ⟨n1, f1⟩ := h1
  have s1 : n1 = B + 518 := s1
  subst s1
  change mi_W pP X kL_law 9 37 1028 11 [(1, .ref B), (0, .ref 0)] [.ref (B + 518)] (B + 518 + 1, va_up f1 (B + 518) (.inr (9, [.int 0, .null, .null, .null, .null, .int 0, .int 0, .int 0, .int 0, .null, .int 0, .double 0, .int 0, .int 0, .int 0]))) _
  refine mi_blk okL_law_0 1 (pc' := 12) (lv' := [(1, .ref B), (0, .ref 0)]) (st' := [.ref (B + 518), .ref (B + 518)]) rfl ?_
  refine mi_callI okL_law_0 (mc := 32) (ms := 302) (mc' := 5) (ms' := 726) (b := B + 518) (As := []) (st := [.ref (B + 518)]) rfl ci_RL_90 rfl (by decide) (Nat.le_of_ble_eq_true rfl) (m_init (M := B + 518) (f0 := va_up f1 (B + 518) (.inr (9, [.int 0, .null, .null, .null, .null, .int 0, .int 0, .int 0, .int 0, .null, .int 0, .double 0, .int 0, .int 0, .int 0]))) (by omega) (if_pos rfl)) (fun r h2 q => ?_)
  obtain ⟨rfl, s2, w2, c2, old2⟩ := q
  change mi_W pP X kL_law 9 32 302 15 [(1, .ref B), (0, .ref 0)] [.ref (B + 518)] h2 _
  refine mi_blk okL_law_0 2 (pc' := 17) (lv' := [(2, .ref (B + 518)), (1, .ref B), (0, .ref 0)]) (st' := [.int 1]) rfl ?_
  refine mi_newa okL_law_0 (mc := 31) (ms := 301) (atype := .long) (t := 1) (N := 1) (z := .inr (.inl (fun _ => 0))) rfl rfl ac_long (by decide) (by decide) (by decide) (fun _ => rfl) (fun _ => rfl) ?_
  change mi_W pP X kL_law 9 31 301 19 [(2, .ref (B + 518)), (1, .ref B), (0, .ref 0)] [.ref h2.1] (mi_psh h2 (oL (fun _ => 0))) _
  refine mi_blk okL_law_0 2 (pc' := 21) (lv' := [(3, .ref h2.1), (2, .ref (B + 518)), (1, .ref B), (0, .ref 0)]) (st' := [.int 1]) rfl ?_
  refine mi_newa okL_law_0 (mc := 30) (ms := 300) (atype := .double) (t := 2) (N := 1) (z := .inr (.inr (.inr (.inl (fun _ => 0))))) rfl rfl ac_double (by decide) (by decide) (by decide) (fun _ => rfl) (fun _ => rfl) ?_
  change mi_W pP X kL_law 9 30 300 23 [(3, .ref h2.1), (2, .ref (B + 518)), (1, .ref B), (0, .ref 0)] [.ref (h2.1 + 1)] (mi_psh (mi_psh h2 (oL (fun _ => 0))) (oD (fun _ => 0))) _
  rw [s2]
  have hL : LC B (mi_psh (mi_psh h2 (oL (fun _ => 0))) (oD (fun _ => 0))) := LC.of w1 rfl s2 w2 c2 (fun b hb => (old2 b hb).trans (if_neg (by omega)))
  generalize mi_psh (mi_psh h2 (oL (fun _ => 0))) (oD (fun _ => 0)) = h at hL ⊢
  change mi_W pP X kL_law 9 30 300 23 [(3, .ref (B + 524)), (2, .ref (B + 518)), (1, .ref B), (0, .ref 0)] [.ref (B + 525)] h _
  refine mi_blk okL_law_0 5 (pc' := 31) (lv' := [(5, .int 0), (4, .ref (B + 525)), (3, .ref (B + 524)), (2, .ref (B + 518)), (1, .ref B), (0, .ref 0)]) (st' := [.ref 0, .int 0]) rfl ?_
  refine mi_xlen okL_law_0 (a := 0) rfl (by decide) ?_
  rcases (show (X 0).1 = 0 ∨ (X 0).1 = 1 ∨ (X 0).1 = 2 ∨ (X 0).1 = 3 ∨ (X 0).1 = 4 ∨ (X 0).1 = 5 by omega) with e | e | e | e | e | e
  · rw [e]
    refine mi_blk okL_law_0 2 (pc' := 34) (lv' := [(5, .int 0), (4, .ref (B + 525)), (3, .ref (B + 524)), (2, .ref (B + 518)), (1, .ref B), (0, .ref 0)]) (st' := [.int (Int32.ofNat 0 - 5), .int 0]) rfl ?_
    refine mi_ic_gt okL_law_0 rfl rfl (fun c_34 => ?_) (fun c_34 => absurd (by decide) c_34)
    refine mi_blk okL_law_25 1 (pc' := 1739) (lv' := [(5, .int 0), (4, .ref (B + 525)), (3, .ref (B + 524)), (2, .ref (B + 518)), (1, .ref B), (0, .ref 0)]) (st' := [.int 1]) rfl ?_
    exact mi_ret_i okL_law_25 rfl rfl rfl rfl
  · rw [e]
    refine mi_blk okL_law_0 2 (pc' := 34) (lv' := [(5, .int 0), (4, .ref (B + 525)), (3, .ref (B + 524)), (2, .ref (B + 518)), (1, .ref B), (0, .ref 0)]) (st' := [.int (Int32.ofNat 1 - 5), .int 0]) rfl ?_
    refine mi_ic_gt okL_law_0 rfl rfl (fun c_34 => ?_) (fun c_34 => absurd (by decide) c_34)
    refine mi_blk okL_law_25 1 (pc' := 1739) (lv' := [(5, .int 0), (4, .ref (B + 525)), (3, .ref (B + 524)), (2, .ref (B + 518)), (1, .ref B), (0, .ref 0)]) (st' := [.int 1]) rfl ?_
    exact mi_ret_i okL_law_25 rfl rfl rfl rfl
  · rw [e]
    refine mi_blk okL_law_0 2 (pc' := 34) (lv' := [(5, .int 0), (4, .ref (B + 525)), (3, .ref (B + 524)), (2, .ref (B + 518)), (1, .ref B), (0, .ref 0)]) (st' := [.int (Int32.ofNat 2 - 5), .int 0]) rfl ?_
    refine mi_ic_gt okL_law_0 rfl rfl (fun c_34 => ?_) (fun c_34 => absurd (by decide) c_34)
    refine mi_blk okL_law_25 1 (pc' := 1739) (lv' := [(5, .int 0), (4, .ref (B + 525)), (3, .ref (B + 524)), (2, .ref (B + 518)), (1, .ref B), (0, .ref 0)]) (st' := [.int 1]) rfl ?_
    exact mi_ret_i okL_law_25 rfl rfl rfl rfl
  · rw [e]
    refine mi_blk okL_law_0 2 (pc' := 34) (lv' := [(5, .int 0), (4, .ref (B + 525)), (3, .ref (B + 524)), (2, .ref (B + 518)), (1, .ref B), (0, .ref 0)]) (st' := [.int (Int32.ofNat 3 - 5), .int 0]) rfl ?_
    refine mi_ic_gt okL_law_0 rfl rfl (fun c_34 => ?_) (fun c_34 => absurd (by decide) c_34)
    refine mi_blk okL_law_25 1 (pc' := 1739) (lv' := [(5, .int 0), (4, .ref (B + 525)), (3, .ref (B + 524)), (2, .ref (B + 518)), (1, .ref B), (0, .ref 0)]) (st' := [.int 1]) rfl ?_
    exact mi_ret_i okL_law_25 rfl rfl rfl rfl
  · rw [e]
    refine mi_blk okL_law_0 2 (pc' := 34) (lv' := [(5, .int 0), (4, .ref (B + 525)), (3, .ref (B + 524)), (2, .ref (B + 518)), (1, .ref B), (0, .ref 0)]) (st' := [.int (Int32.ofNat 4 - 5), .int 0]) rfl ?_
    refine mi_ic_gt okL_law_0 rfl rfl (fun c_34 => ?_) (fun c_34 => absurd (by decide) c_34)
    refine mi_blk okL_law_25 1 (pc' := 1739) (lv' := [(5, .int 0), (4, .ref (B + 525)), (3, .ref (B + 524)), (2, .ref (B + 518)), (1, .ref B), (0, .ref 0)]) (st' := [.int 1]) rfl ?_
    exact mi_ret_i okL_law_25 rfl rfl rfl rfl
  · rw [e]
    refine mi_blk okL_law_0 2 (pc' := 34) (lv' := [(5, .int 0), (4, .ref (B + 525)), (3, .ref (B + 524)), (2, .ref (B + 518)), (1, .ref B), (0, .ref 0)]) (st' := [.int (Int32.ofNat 5 - 5), .int 0]) rfl ?_
    refine mi_ic_gt okL_law_0 rfl rfl (fun c_34 => absurd c_34 (by decide)) (fun c_34 => ?_)
    exact w_turn e hX1 hX hL
