set_option maxHeartbeats 4000000 in
set_option maxRecDepth 100000 in
theorem c_fillWith {X : mi_X} (hX1 : mi_X1 X) (hX4 : mi_X4 X) {h : mi_H} {a b g p k : Nat} {n : Int32} {q : se_S} {v vp : Int64} {e ep : Int32} {sk : mk_S} (hE : 6 ≤ a) (ha : a < h.1) (hc : h.2 a = se_c n b q) (hB : 6 ≤ b) (hb : b < h.1) (hcb : h.2 b = bl_c v e) (hG : 6 ≤ g) (hg : g < h.1) (hcg : h.2 g = be_c p k) (hP : 6 ≤ p) (hp : p < h.1) (hcp : h.2 p = bl_c vp ep) (hK : 6 ≤ k) (hk : k < h.1) (hck : h.2 k = mk_c sk) (hba : b ≠ a) (hga : g ≠ a) (hpa : p ≠ a) (hka : k ≠ a) (hpb : p ≠ b) (hkb : k ≠ b) (hpg : p ≠ g) (hkg : k ≠ g) (hkp : k ≠ p) (hgb : g ≠ b) {m : Int64} {da : Int32} (hda : da = 0 ∨ da = 1) : mi_S pP X kX5_fillWith 5 [.ref a, .long m, .int da, .ref g] h 0 0 (fun r h1 => r = none ∧ h1 = mi_set (mi_set (mi_set (mi_set h b (bl_c (bl_spread (se_mix n m)) 0)) p (bl_c (bl_mend (bl_spread (se_mix n m)) 0).1 (bl_mend (bl_spread (se_mix n m)) 0).2)) k (mk_c (mk_all (bl_spread (se_mix n m)) 16).1)) a (se_c n b (se_rk n (1, da, se_sum m, q.2.2.2) (bl_spread (se_mix n m)) 0))) := by
  refine enX5_fillWith (Nat.le_of_ble_eq_true rfl) ?_
  refine mi_blk okX5_fillWith 2 (pc' := 2) (lv' := [(0, .ref a), (1, .long m), (3, .int da), (4, .ref g)]) (st' := [.int 1, .ref a]) rfl ?_
  refine mi_putf' okX5_fillWith rfl fd_RX5_18 hE ha hc (fs' := [.int n, .ref b, .int 1, .int q.2.1, .int q.2.2.1, .int q.2.2.2.1, .long q.2.2.2.2.1, .int q.2.2.2.2.2.1, .int q.2.2.2.2.2.2.1, .int q.2.2.2.2.2.2.2]) rfl (Nat.le_of_ble_eq_true rfl) rfl rfl ?_
  refine mi_blk okX5_fillWith 2 (pc' := 7) (lv' := [(0, .ref a), (1, .long m), (3, .int da), (4, .ref g)]) (st' := [.int da, .ref a]) rfl ?_
  refine mi_putf' okX5_fillWith rfl fd_RX5_22 hE ha mi_set_self (fs' := [.int n, .ref b, .int 1, .int da, .int q.2.2.1, .int q.2.2.2.1, .long q.2.2.2.2.1, .int q.2.2.2.2.2.1, .int q.2.2.2.2.2.2.1, .int q.2.2.2.2.2.2.2]) rfl (Nat.le_of_ble_eq_true rfl) (by rcases hda with rfl | rfl <;> rfl) (by rcases hda with rfl | rfl <;> rfl) ?_
  rw [mi_set_set]
  refine mi_blk okX5_fillWith 2 (pc' := 12) (lv' := [(0, .ref a), (1, .long m), (3, .int da), (4, .ref g)]) (st' := [.long m, .ref a]) rfl ?_
  refine mi_callS okX5_fillWith (mc := 0) (ms := 0) (mc' := 0) (ms' := 0) (As := [.long m]) (st := [.ref a]) rfl cs_RX5_50 rfl (by decide) (Nat.le_of_ble_eq_true rfl) c_sumOf (fun r h1 q => ?_)
  obtain ⟨rfl, e9⟩ := q; have e9 := e9.symm; subst e9
  change mi_W pP X kX5_fillWith 5 0 0 15 [(0, .ref a), (1, .long m), (3, .int da), (4, .ref g)] [.int (se_sum m), .ref a] (mi_set h a (.inr (6, [.int n, .ref b, .int 1, .int da, .int q.2.2.1, .int q.2.2.2.1, .long q.2.2.2.2.1, .int q.2.2.2.2.2.1, .int q.2.2.2.2.2.2.1, .int q.2.2.2.2.2.2.2]))) _
  refine mi_putf' okX5_fillWith rfl fd_RX5_25 hE ha mi_set_self (fs' := [.int n, .ref b, .int 1, .int da, .int (se_sum m), .int q.2.2.2.1, .long q.2.2.2.2.1, .int q.2.2.2.2.2.1, .int q.2.2.2.2.2.2.1, .int q.2.2.2.2.2.2.2]) rfl (Nat.le_of_ble_eq_true rfl) rfl rfl ?_
  rw [mi_set_set]
  refine mi_blk okX5_fillWith 1 (pc' := 19) (lv' := [(0, .ref a), (1, .long m), (3, .int da), (4, .ref g)]) (st' := [.ref a]) rfl ?_
  refine mi_getf okX5_fillWith rfl fg_RX5_12 hE ha mi_set_self (v := .ref b) rfl ?_
  refine mi_blk okX5_fillWith 2 (pc' := 24) (lv' := [(0, .ref a), (1, .long m), (3, .int da), (4, .ref g)]) (st' := [.long m, .ref a, .ref b]) rfl ?_
  refine mi_callV okX5_fillWith (mc := 0) (ms := 0) (mc' := 0) (ms' := 0) (b := a) (As := [.long m]) (st := [.ref b]) rfl cv_RX5_54 rfl (by decide) hE ha mi_set_self rfl (Nat.le_of_ble_eq_true rfl) (c_mixed (h := mi_set h a (.inr (6, [.int n, .ref b, .int 1, .int da, .int (se_sum m), .int q.2.2.2.1, .long q.2.2.2.2.1, .int q.2.2.2.2.2.1, .int q.2.2.2.2.2.2.1, .int q.2.2.2.2.2.2.2]))) (q := (1, da, (se_sum m), q.2.2.2.1, q.2.2.2.2.1, q.2.2.2.2.2.1, q.2.2.2.2.2.2.1, q.2.2.2.2.2.2.2)) hE ha mi_set_self) (fun r h1 q => ?_)
  obtain ⟨rfl, e9⟩ := q; have e9 := e9.symm; subst e9
  change mi_W pP X kX5_fillWith 5 0 0 27 [(0, .ref a), (1, .long m), (3, .int da), (4, .ref g)] [.long (se_mix n m), .ref b] (mi_set h a (.inr (6, [.int n, .ref b, .int 1, .int da, .int (se_sum m), .int q.2.2.2.1, .long q.2.2.2.2.1, .int q.2.2.2.2.2.1, .int q.2.2.2.2.2.2.1, .int q.2.2.2.2.2.2.2]))) _
  refine mi_callV okX5_fillWith (mc := 0) (ms := 0) (mc' := 0) (ms' := 0) (b := b) (As := [.long (se_mix n m)]) (st := []) rfl cv_RX5_58 rfl (by decide) hB hb ((mi_set_ne hba).trans hcb) rfl (Nat.le_of_ble_eq_true rfl) (c_spread (h := mi_set h a (.inr (6, [.int n, .ref b, .int 1, .int da, .int (se_sum m), .int q.2.2.2.1, .long q.2.2.2.2.1, .int q.2.2.2.2.2.1, .int q.2.2.2.2.2.2.1, .int q.2.2.2.2.2.2.2]))) hB hb ((mi_set_ne hba).trans hcb)) (fun r h1 q => ?_)
  obtain ⟨rfl, e9⟩ := q; have e9 := e9.symm; subst e9
  change mi_W pP X kX5_fillWith 5 0 0 30 [(0, .ref a), (1, .long m), (3, .int da), (4, .ref g)] [] (mi_set (mi_set h a (.inr (6, [.int n, .ref b, .int 1, .int da, .int (se_sum m), .int q.2.2.2.1, .long q.2.2.2.2.1, .int q.2.2.2.2.2.1, .int q.2.2.2.2.2.2.1, .int q.2.2.2.2.2.2.2]))) b (.inr (2, [.long (bl_spread (se_mix n m)), .int 0]))) _
  refine mi_blk okX5_fillWith 2 (pc' := 33) (lv' := [(0, .ref a), (1, .long m), (3, .int da), (4, .ref g)]) (st' := [.ref g, .ref a]) rfl ?_
  refine mi_callV okX5_fillWith (mc := 0) (ms := 0) (mc' := 0) (ms' := 0) (b := a) (As := [.ref g]) (st := []) rfl cv_RX5_62 rfl (by decide) hE ha ((mi_set_ne hba.symm).trans mi_set_self) rfl (Nat.le_of_ble_eq_true rfl) (c_reckon hX1 hX4 (h := mi_set (mi_set h a (.inr (6, [.int n, .ref b, .int 1, .int da, .int (se_sum m), .int q.2.2.2.1, .long q.2.2.2.2.1, .int q.2.2.2.2.2.1, .int q.2.2.2.2.2.2.1, .int q.2.2.2.2.2.2.2]))) b (.inr (2, [.long (bl_spread (se_mix n m)), .int 0]))) (n := n) (q := (1, da, (se_sum m), q.2.2.2.1, q.2.2.2.2.1, q.2.2.2.2.2.1, q.2.2.2.2.2.2.1, q.2.2.2.2.2.2.2)) (v := (bl_spread (se_mix n m))) (e := 0) hE ha ((mi_set_ne hba.symm).trans mi_set_self) hB hb mi_set_self hG hg ((mi_set_ne hgb).trans ((mi_set_ne hga).trans hcg)) hP hp ((mi_set_ne hpb).trans ((mi_set_ne hpa).trans hcp)) hK hk (sk := sk) ((mi_set_ne hkb).trans ((mi_set_ne hka).trans hck)) hba hga hpa hka hpb hkb hpg hkg hkp hgb) (fun r h1 q => ?_)
  obtain ⟨rfl, e9⟩ := q; have e9 := e9.symm; subst e9
  change mi_W pP X kX5_fillWith 5 0 0 36 [(0, .ref a), (1, .long m), (3, .int da), (4, .ref g)] [] (mi_set (mi_set (mi_set (mi_set (mi_set h a (.inr (6, [.int n, .ref b, .int 1, .int da, .int (se_sum m), .int q.2.2.2.1, .long q.2.2.2.2.1, .int q.2.2.2.2.2.1, .int q.2.2.2.2.2.2.1, .int q.2.2.2.2.2.2.2]))) b (.inr (2, [.long (bl_spread (se_mix n m)), .int 0]))) p (bl_c (bl_mend (bl_spread (se_mix n m)) 0).1 (bl_mend (bl_spread (se_mix n m)) 0).2)) k (mk_c (mk_all (bl_spread (se_mix n m)) 16).1)) a (se_c n b (se_rk n (1, da, (se_sum m), q.2.2.2.1, q.2.2.2.2.1, q.2.2.2.2.2.1, q.2.2.2.2.2.2.1, q.2.2.2.2.2.2.2) (bl_spread (se_mix n m)) 0))) _
  rw [mi_set_comm (h := h) (a := a) (b := b) hba.symm, mi_set_over hpa hka]
  exact mi_ret_v okX5_fillWith rfl rfl ⟨rfl, rfl⟩
def ec_set (c : Int32) : Nat → Int32
  | 0 => 0
  | r + 1 => ec_set c r ||| (1 <<< ((4 * nI r + c) &&& 31))
set_option maxHeartbeats 4000000 in
set_option maxRecDepth 100000 in
theorem l_ec {X : mi_X} {h : mi_H} {a g : Nat} {c : Int32} {m : Nat} (hm : m < 1000) {Q : Option Value → mi_H → Prop} (kk : mi_W pP X kX5_eraseColumn 5 0 0 6 [(5, .int (nI (m + 1))), (4, .int (ec_set c (m + 1))), (0, .ref a), (1, .int c), (2, .int (nI m)), (3, .ref g)] [] h Q) : ∀ (n r : Nat), r + n = m + 1 → mi_W pP X kX5_eraseColumn 5 0 0 6 [(5, .int (nI r)), (4, .int (ec_set c r)), (0, .ref a), (1, .int c), (2, .int (nI m)), (3, .ref g)] [] h Q := by
  intro n
  induction n with
  | zero =>
    intro r hr
    obtain rfl : r = m + 1 := by omega
    exact kk
  | succ n ih =>
    intro r hr
    refine mi_blk okX5_eraseColumn 2 (pc' := 9) (lv' := [(5, .int (nI r)), (4, .int (ec_set c r)), (0, .ref a), (1, .int c), (2, .int (nI m)), (3, .ref g)]) (st' := [.int (nI m), .int (nI r)]) rfl ?_
    refine mi_ic_gt okX5_eraseColumn rfl rfl (fun c_9 => absurd c_9 (nI_nlt (a := m) (b := r) (by omega) (by omega))) (fun c_9 => ?_)
    refine mi_blk okX5_eraseColumn 12 (pc' := 6) (lv' := [(5, .int ((nI r) + 1)), (4, .int ((ec_set c r) ||| (1 <<< (((4 * (nI r)) + c) &&& 31)))), (0, .ref a), (1, .int c), (2, .int (nI m)), (3, .ref g)]) (st' := []) rfl ?_
    rw [← nI_succ]
    exact ih (r + 1) (by omega)
set_option maxHeartbeats 4000000 in
set_option maxRecDepth 100000 in
theorem c_eraseColumn {X : mi_X} (hX1 : mi_X1 X) (hX4 : mi_X4 X) {h : mi_H} {a b g p k : Nat} {n : Int32} {q : se_S} {v vp : Int64} {e ep : Int32} {sk : mk_S} (hE : 6 ≤ a) (ha : a < h.1) (hc : h.2 a = se_c n b q) (hB : 6 ≤ b) (hb : b < h.1) (hcb : h.2 b = bl_c v e) (hG : 6 ≤ g) (hg : g < h.1) (hcg : h.2 g = be_c p k) (hP : 6 ≤ p) (hp : p < h.1) (hcp : h.2 p = bl_c vp ep) (hK : 6 ≤ k) (hk : k < h.1) (hck : h.2 k = mk_c sk) (hba : b ≠ a) (hga : g ≠ a) (hpa : p ≠ a) (hka : k ≠ a) (hpb : p ≠ b) (hkb : k ≠ b) (hpg : p ≠ g) (hkg : k ≠ g) (hkp : k ≠ p) (hgb : g ≠ b) {c : Int32} {m : Nat} (hm : m < 1000) : mi_S pP X kX5_eraseColumn 5 [.ref a, .int c, .int (nI m), .ref g] h 0 0 (fun r h1 => r = none ∧ h1 = mi_set (mi_set (mi_set (mi_set h b (bl_c (bl_clr (e ||| ec_set c (m + 1)) v 16) (e ||| ec_set c (m + 1)))) p (bl_c (bl_mend (bl_clr (e ||| ec_set c (m + 1)) v 16) (e ||| ec_set c (m + 1))).1 (bl_mend (bl_clr (e ||| ec_set c (m + 1)) v 16) (e ||| ec_set c (m + 1))).2)) k (mk_c (mk_all (bl_clr (e ||| ec_set c (m + 1)) v 16) 16).1)) a (se_c n b (se_rk n q (bl_clr (e ||| ec_set c (m + 1)) v 16) (e ||| ec_set c (m + 1))))) := by
  refine enX5_eraseColumn (Nat.le_of_ble_eq_true rfl) ?_
  refine mi_blk okX5_eraseColumn 4 (pc' := 6) (lv' := [(5, .int 0), (4, .int 0), (0, .ref a), (1, .int c), (2, .int (nI m)), (3, .ref g)]) (st' := []) rfl ?_
  refine l_ec (c := c) hm ?_ (m + 1) 0 (by omega)
  refine mi_blk okX5_eraseColumn 2 (pc' := 9) (lv' := [(5, .int (nI (m + 1))), (4, .int (ec_set c (m + 1))), (0, .ref a), (1, .int c), (2, .int (nI m)), (3, .ref g)]) (st' := [.int (nI m), .int (nI (m + 1))]) rfl ?_
  refine mi_ic_gt okX5_eraseColumn rfl rfl (fun c_9 => ?_) (fun c_9 => absurd (nI_lt (a := m) (b := m + 1) (by omega) (by omega)) c_9)
  refine mi_blk okX5_eraseColumn 1 (pc' := 32) (lv' := [(5, .int (nI (m + 1))), (4, .int (ec_set c (m + 1))), (0, .ref a), (1, .int c), (2, .int (nI m)), (3, .ref g)]) (st' := [.ref a]) rfl ?_
  refine mi_getf okX5_eraseColumn rfl fg_RX5_12 hE ha hc (v := .ref b) rfl ?_
  refine mi_blk okX5_eraseColumn 1 (pc' := 37) (lv' := [(5, .int (nI (m + 1))), (4, .int (ec_set c (m + 1))), (0, .ref a), (1, .int c), (2, .int (nI m)), (3, .ref g)]) (st' := [.int (ec_set c (m + 1)), .ref b]) rfl ?_
  refine mi_callV okX5_eraseColumn (mc := 0) (ms := 0) (mc' := 0) (ms' := 0) (b := b) (As := [.int (ec_set c (m + 1))]) (st := []) rfl cv_RX5_66 rfl (by decide) hB hb hcb rfl (Nat.le_of_ble_eq_true rfl) (c_erase (h := h) hB hb hcb) (fun r h1 q => ?_)
  obtain ⟨rfl, e9⟩ := q; have e9 := e9.symm; subst e9
  change mi_W pP X kX5_eraseColumn 5 0 0 40 [(5, .int (nI (m + 1))), (4, .int (ec_set c (m + 1))), (0, .ref a), (1, .int c), (2, .int (nI m)), (3, .ref g)] [] (mi_set h b (.inr (2, [.long (bl_clr (e ||| (ec_set c (m + 1))) v 16), .int (e ||| (ec_set c (m + 1)))]))) _
  refine mi_blk okX5_eraseColumn 2 (pc' := 42) (lv' := [(5, .int (nI (m + 1))), (4, .int (ec_set c (m + 1))), (0, .ref a), (1, .int c), (2, .int (nI m)), (3, .ref g)]) (st' := [.ref g, .ref a]) rfl ?_
  refine mi_callV okX5_eraseColumn (mc := 0) (ms := 0) (mc' := 0) (ms' := 0) (b := a) (As := [.ref g]) (st := []) rfl cv_RX5_62 rfl (by decide) hE ha ((mi_set_ne hba.symm).trans hc) rfl (Nat.le_of_ble_eq_true rfl) (c_reckon hX1 hX4 (h := mi_set h b (.inr (2, [.long (bl_clr (e ||| (ec_set c (m + 1))) v 16), .int (e ||| (ec_set c (m + 1)))]))) (n := n) (q := q) (v := (bl_clr (e ||| (ec_set c (m + 1))) v 16)) (e := (e ||| (ec_set c (m + 1)))) hE ha ((mi_set_ne hba.symm).trans hc) hB hb mi_set_self hG hg ((mi_set_ne hgb).trans hcg) hP hp ((mi_set_ne hpb).trans hcp) hK hk (sk := sk) ((mi_set_ne hkb).trans hck) hba hga hpa hka hpb hkb hpg hkg hkp hgb) (fun r h1 q => ?_)
  obtain ⟨rfl, e9⟩ := q; have e9 := e9.symm; subst e9
  change mi_W pP X kX5_eraseColumn 5 0 0 45 [(5, .int (nI (m + 1))), (4, .int (ec_set c (m + 1))), (0, .ref a), (1, .int c), (2, .int (nI m)), (3, .ref g)] [] (mi_set (mi_set (mi_set (mi_set h b (.inr (2, [.long (bl_clr (e ||| (ec_set c (m + 1))) v 16), .int (e ||| (ec_set c (m + 1)))]))) p (bl_c (bl_mend (bl_clr (e ||| (ec_set c (m + 1))) v 16) (e ||| (ec_set c (m + 1)))).1 (bl_mend (bl_clr (e ||| (ec_set c (m + 1))) v 16) (e ||| (ec_set c (m + 1)))).2)) k (mk_c (mk_all (bl_clr (e ||| (ec_set c (m + 1))) v 16) 16).1)) a (se_c n b (se_rk n q (bl_clr (e ||| (ec_set c (m + 1))) v 16) (e ||| (ec_set c (m + 1)))))) _
  exact mi_ret_v okX5_eraseColumn rfl rfl ⟨rfl, rfl⟩
set_option maxHeartbeats 4000000 in
set_option maxRecDepth 100000 in
theorem c_makeWrong {X : mi_X} (hX1 : mi_X1 X) (hX4 : mi_X4 X) {h : mi_H} {a b g p k : Nat} {n : Int32} {q : se_S} {v vp : Int64} {e ep : Int32} {sk : mk_S} (hE : 6 ≤ a) (ha : a < h.1) (hc : h.2 a = se_c n b q) (hB : 6 ≤ b) (hb : b < h.1) (hcb : h.2 b = bl_c v e) (hG : 6 ≤ g) (hg : g < h.1) (hcg : h.2 g = be_c p k) (hP : 6 ≤ p) (hp : p < h.1) (hcp : h.2 p = bl_c vp ep) (hK : 6 ≤ k) (hk : k < h.1) (hck : h.2 k = mk_c sk) (hba : b ≠ a) (hga : g ≠ a) (hpa : p ≠ a) (hka : k ≠ a) (hpb : p ≠ b) (hkb : k ≠ b) (hpg : p ≠ g) (hkg : k ≠ g) (hkp : k ≠ p) (hgb : g ≠ b) {t y : Int32} : mi_S pP X kX5_makeWrong 5 [.ref a, .int t, .int y, .ref g] h 0 0 (fun r h1 => (¬ bl_isE e t = 0 ∧ r = some (.int 0) ∧ h1 = h) ∨ (bl_isE e t = 0 ∧ r = some (.int 1) ∧ h1 = mi_set (mi_set (mi_set (mi_set h b (bl_c (bl_put v t (bl_at v t ^^^ y)) e)) p (bl_c (bl_mend (bl_put v t (bl_at v t ^^^ y)) e).1 (bl_mend (bl_put v t (bl_at v t ^^^ y)) e).2)) k (mk_c (mk_all (bl_put v t (bl_at v t ^^^ y)) 16).1)) a (se_c n b (se_rk n q (bl_put v t (bl_at v t ^^^ y)) e)))) := by
  refine enX5_makeWrong (Nat.le_of_ble_eq_true rfl) ?_
  refine mi_blk okX5_makeWrong 1 (pc' := 1) (lv' := [(0, .ref a), (1, .int t), (2, .int y), (3, .ref g)]) (st' := [.ref a]) rfl ?_
  refine mi_getf okX5_makeWrong rfl fg_RX5_12 hE ha hc (v := .ref b) rfl ?_
  refine mi_blk okX5_makeWrong 1 (pc' := 5) (lv' := [(0, .ref a), (1, .int t), (2, .int y), (3, .ref g)]) (st' := [.int t, .ref b]) rfl ?_
  refine mi_callV okX5_makeWrong (mc := 0) (ms := 0) (mc' := 0) (ms' := 0) (b := b) (As := [.int t]) (st := []) rfl cv_RX5_70 rfl (by decide) hB hb hcb rfl (Nat.le_of_ble_eq_true rfl) (c_isErased (h := h) hB hb hcb) (fun r h1 q => ?_)
  obtain ⟨rfl, e9⟩ := q; have e9 := e9.symm; subst e9
  change mi_W pP X kX5_makeWrong 5 0 0 8 [(0, .ref a), (1, .int t), (2, .int y), (3, .ref g)] [.int (bl_isE e t)] h _
  refine mi_if_eq okX5_makeWrong rfl rfl (fun c_8 => ?_) (fun c_8 => ?_)
  · refine mi_blk okX5_makeWrong 1 (pc' := 14) (lv' := [(0, .ref a), (1, .int t), (2, .int y), (3, .ref g)]) (st' := [.ref a]) rfl ?_
    refine mi_getf okX5_makeWrong rfl fg_RX5_12 hE ha hc (v := .ref b) rfl ?_
    refine mi_blk okX5_makeWrong 2 (pc' := 19) (lv' := [(0, .ref a), (1, .int t), (2, .int y), (3, .ref g)]) (st' := [.ref a, .int t, .ref b]) rfl ?_
    refine mi_getf okX5_makeWrong rfl fg_RX5_12 hE ha hc (v := .ref b) rfl ?_
    refine mi_blk okX5_makeWrong 1 (pc' := 23) (lv' := [(0, .ref a), (1, .int t), (2, .int y), (3, .ref g)]) (st' := [.int t, .ref b, .int t, .ref b]) rfl ?_
    refine mi_callV okX5_makeWrong (mc := 0) (ms := 0) (mc' := 0) (ms' := 0) (b := b) (As := [.int t]) (st := [.int t, .ref b]) rfl cv_RX5_74 rfl (by decide) hB hb hcb rfl (Nat.le_of_ble_eq_true rfl) (c_valueAt (h := h) hB hb hcb) (fun r h1 q => ?_)
    obtain ⟨rfl, e9⟩ := q; have e9 := e9.symm; subst e9
    change mi_W pP X kX5_makeWrong 5 0 0 26 [(0, .ref a), (1, .int t), (2, .int y), (3, .ref g)] [.int (bl_at v t), .int t, .ref b] h _
    refine mi_blk okX5_makeWrong 2 (pc' := 28) (lv' := [(0, .ref a), (1, .int t), (2, .int y), (3, .ref g)]) (st' := [.int ((bl_at v t) ^^^ y), .int t, .ref b]) rfl ?_
    refine mi_callV okX5_makeWrong (mc := 0) (ms := 0) (mc' := 0) (ms' := 0) (b := b) (As := [.int t, .int ((bl_at v t) ^^^ y)]) (st := []) rfl cv_RX5_78 rfl (by decide) hB hb hcb rfl (Nat.le_of_ble_eq_true rfl) (c_put (h := h) hB hb hcb) (fun r h1 q => ?_)
    obtain ⟨rfl, e9⟩ := q; have e9 := e9.symm; subst e9
    change mi_W pP X kX5_makeWrong 5 0 0 31 [(0, .ref a), (1, .int t), (2, .int y), (3, .ref g)] [] (mi_set h b (.inr (2, [.long (bl_put v t ((bl_at v t) ^^^ y)), .int e]))) _
    refine mi_blk okX5_makeWrong 2 (pc' := 33) (lv' := [(0, .ref a), (1, .int t), (2, .int y), (3, .ref g)]) (st' := [.ref g, .ref a]) rfl ?_
    refine mi_callV okX5_makeWrong (mc := 0) (ms := 0) (mc' := 0) (ms' := 0) (b := a) (As := [.ref g]) (st := []) rfl cv_RX5_62 rfl (by decide) hE ha ((mi_set_ne hba.symm).trans hc) rfl (Nat.le_of_ble_eq_true rfl) (c_reckon hX1 hX4 (h := mi_set h b (.inr (2, [.long (bl_put v t ((bl_at v t) ^^^ y)), .int e]))) (n := n) (q := q) (v := (bl_put v t ((bl_at v t) ^^^ y))) (e := e) hE ha ((mi_set_ne hba.symm).trans hc) hB hb mi_set_self hG hg ((mi_set_ne hgb).trans hcg) hP hp ((mi_set_ne hpb).trans hcp) hK hk (sk := sk) ((mi_set_ne hkb).trans hck) hba hga hpa hka hpb hkb hpg hkg hkp hgb) (fun r h1 q => ?_)
    obtain ⟨rfl, e9⟩ := q; have e9 := e9.symm; subst e9
    change mi_W pP X kX5_makeWrong 5 0 0 36 [(0, .ref a), (1, .int t), (2, .int y), (3, .ref g)] [] (mi_set (mi_set (mi_set (mi_set h b (.inr (2, [.long (bl_put v t ((bl_at v t) ^^^ y)), .int e]))) p (bl_c (bl_mend (bl_put v t ((bl_at v t) ^^^ y)) e).1 (bl_mend (bl_put v t ((bl_at v t) ^^^ y)) e).2)) k (mk_c (mk_all (bl_put v t ((bl_at v t) ^^^ y)) 16).1)) a (se_c n b (se_rk n q (bl_put v t ((bl_at v t) ^^^ y)) e))) _
    refine mi_blk okX5_makeWrong 1 (pc' := 37) (lv' := [(0, .ref a), (1, .int t), (2, .int y), (3, .ref g)]) (st' := [.int 1]) rfl ?_
    exact mi_ret_i okX5_makeWrong rfl rfl rfl (Or.inr ⟨c_8, rfl, rfl⟩)
  · refine mi_blk okX5_makeWrong 1 (pc' := 12) (lv' := [(0, .ref a), (1, .int t), (2, .int y), (3, .ref g)]) (st' := [.int 0]) rfl ?_
    exact mi_ret_i okX5_makeWrong rfl rfl rfl (Or.inl ⟨c_8, rfl, rfl⟩)
