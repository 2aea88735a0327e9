/-- what a SECTOR becomes as it is reckoned anew over its block -/
def se_rk (n : Int32) (q : se_S) (v : Int64) (e : Int32) : se_S :=
  (q.1, q.2.1, q.2.2.1, se_jd n q.1 q.2.1 q.2.2.1 (bl_mend v e).1 (bl_mend v e).2, if se_jd n q.1 q.2.1 q.2.2.1 (bl_mend v e).1 (bl_mend v e).2 = 2 then -1 else se_mix n (ga_n (bl_mend v e).1 9), (mk_all v 16).1.2.2.1, (mk_all v 16).1.2.1, (mk_all v 16).1.2.2.2)
abbrev be_c (p k : Nat) : mi_C := .inr (1, [.ref p, .ref k])
theorem mi_set_over {h : mi_H} {a p k : Nat} {c0 c1 c2 c3 : mi_C} (hp : p ≠ a) (hk : k ≠ a) : mi_set (mi_set (mi_set (mi_set h a c0) p c1) k c2) a c3 = mi_set (mi_set (mi_set h p c1) k c2) a c3 := by
  rw [mi_set_comm (h := h) hp.symm, mi_set_comm (a := a) (b := k) hk.symm, mi_set_set]
set_option maxHeartbeats 4000000 in
set_option maxRecDepth 100000 in
theorem c_reckon {X : mi_X} (hX1 : mi_X1 X) (hX4 : mi_X4 X) {h : mi_H} {a b g p k : Nat} {n : Int32} {q : se_S} {v vp : Int64} {e ep : Int32} {sk : mk_S} (hE : 6 ≤ a) (ha : a < h.1) (hc : h.2 a = se_c n b q) (hB : 6 ≤ b) (hb : b < h.1) (hcb : h.2 b = bl_c v e) (hG : 6 ≤ g) (hg : g < h.1) (hcg : h.2 g = be_c p k) (hP : 6 ≤ p) (hp : p < h.1) (hcp : h.2 p = bl_c vp ep) (hK : 6 ≤ k) (hk : k < h.1) (hck : h.2 k = mk_c sk) (hba : b ≠ a) (hga : g ≠ a) (hpa : p ≠ a) (hka : k ≠ a) (hpb : p ≠ b) (hkb : k ≠ b) (hpg : p ≠ g) (hkg : k ≠ g) (hkp : k ≠ p) (hgb : g ≠ b) : mi_S pP X kX5_reckon 4 [.ref a, .ref g] h 0 0 (fun r h1 => r = none ∧ h1 = mi_set (mi_set (mi_set h p (bl_c (bl_mend v e).1 (bl_mend v e).2)) k (mk_c (mk_all v 16).1)) a (se_c n b (se_rk n q v e))) := by
  refine enX5_reckon (Nat.le_of_ble_eq_true rfl) ?_
  refine mi_blk okX5_reckon 1 (pc' := 1) (lv' := [(0, .ref a), (1, .ref g)]) (st' := [.ref g]) rfl ?_
  refine mi_getf okX5_reckon rfl fg_RX5_101 hG hg hcg (v := .ref p) rfl ?_
  refine mi_blk okX5_reckon 1 (pc' := 5) (lv' := [(0, .ref a), (1, .ref g)]) (st' := [.ref a, .ref p]) rfl ?_
  refine mi_getf okX5_reckon rfl fg_RX5_12 hE ha hc (v := .ref b) rfl ?_
  refine mi_callV okX5_reckon (mc := 0) (ms := 0) (mc' := 0) (ms' := 0) (b := p) (As := [.ref b]) (st := []) rfl cv_RX5_90 rfl (by decide) hP hp hcp rfl (Nat.le_of_ble_eq_true rfl) (c_copyFrom (h := h) hP hp hcp hB hb hcb hpb.symm) (fun r h1 q => ?_)
  obtain ⟨rfl, e9⟩ := q; have e9 := e9.symm; subst e9
  change mi_W pP X kX5_reckon 4 0 0 11 [(0, .ref a), (1, .ref g)] [] (mi_set h p (.inr (2, [.long v, .int e]))) _
  refine mi_blk okX5_reckon 1 (pc' := 12) (lv' := [(0, .ref a), (1, .ref g)]) (st' := [.ref g]) rfl ?_
  refine mi_getf okX5_reckon rfl fg_RX5_101 hG hg ((mi_set_ne hpg.symm).trans hcg) (v := .ref p) rfl ?_
  refine mi_callV okX5_reckon (mc := 0) (ms := 0) (mc' := 0) (ms' := 0) (b := p) (As := []) (st := []) rfl cv_RX5_94 rfl (by decide) hP hp mi_set_self rfl (Nat.le_of_ble_eq_true rfl) (c_mend hX1 (h := mi_set h p (.inr (2, [.long v, .int e]))) hP hp mi_set_self) (fun r h1 q => ?_)
  obtain ⟨rfl, e9⟩ := q; have e9 := e9.symm; subst e9
  change mi_W pP X kX5_reckon 4 0 0 18 [(0, .ref a), (1, .ref g)] [] (mi_set (mi_set h p (.inr (2, [.long v, .int e]))) p (.inr (2, [.long ((bl_mend v e).1), .int ((bl_mend v e).2)]))) _
  rw [mi_set_set]
  refine mi_blk okX5_reckon 3 (pc' := 21) (lv' := [(0, .ref a), (1, .ref g)]) (st' := [.ref g, .ref a, .ref a]) rfl ?_
  refine mi_getf okX5_reckon rfl fg_RX5_101 hG hg ((mi_set_ne hpg.symm).trans hcg) (v := .ref p) rfl ?_
  refine mi_callV okX5_reckon (mc := 0) (ms := 0) (mc' := 0) (ms' := 0) (b := a) (As := [.ref p]) (st := [.ref a]) rfl cv_RX5_97 rfl (by decide) hE ha ((mi_set_ne hpa.symm).trans hc) rfl (Nat.le_of_ble_eq_true rfl) (c_judged (h := mi_set h p (.inr (2, [.long ((bl_mend v e).1), .int ((bl_mend v e).2)]))) hE ha (q := q) ((mi_set_ne hpa.symm).trans hc) hP hp mi_set_self) (fun r h1 q => ?_)
  obtain ⟨rfl, e9⟩ := q; have e9 := e9.symm; subst e9
  change mi_W pP X kX5_reckon 4 0 0 27 [(0, .ref a), (1, .ref g)] [.int (se_jd n q.1 q.2.1 q.2.2.1 ((bl_mend v e).1) ((bl_mend v e).2)), .ref a] (mi_set h p (.inr (2, [.long ((bl_mend v e).1), .int ((bl_mend v e).2)]))) _
  refine mi_putf' okX5_reckon rfl fd_RX5_29 hE ha ((mi_set_ne hpa.symm).trans hc) (fs' := [.int n, .ref b, .int q.1, .int q.2.1, .int q.2.2.1, .int (se_jd n q.1 q.2.1 q.2.2.1 ((bl_mend v e).1) ((bl_mend v e).2)), .long q.2.2.2.2.1, .int q.2.2.2.2.2.1, .int q.2.2.2.2.2.2.1, .int q.2.2.2.2.2.2.2]) rfl (Nat.le_of_ble_eq_true rfl) rfl rfl ?_
  refine mi_blk okX5_reckon 2 (pc' := 32) (lv' := [(0, .ref a), (1, .ref g)]) (st' := [.ref a, .ref a]) rfl ?_
  refine mi_getf okX5_reckon rfl fg_RX5_29 hE ha mi_set_self (v := .int (se_jd n q.1 q.2.1 q.2.2.1 ((bl_mend v e).1) ((bl_mend v e).2))) rfl ?_
  refine mi_blk okX5_reckon 1 (pc' := 36) (lv' := [(0, .ref a), (1, .ref g)]) (st' := [.int 2, .int (se_jd n q.1 q.2.1 q.2.2.1 ((bl_mend v e).1) ((bl_mend v e).2)), .ref a]) rfl ?_
  refine mi_ic_ne okX5_reckon rfl rfl (fun c_36 => ?_) (fun c_36 => ?_)
  · refine mi_blk okX5_reckon 2 (pc' := 47) (lv' := [(0, .ref a), (1, .ref g)]) (st' := [.ref g, .ref a, .ref a]) rfl ?_
    refine mi_getf okX5_reckon rfl fg_RX5_101 hG hg ((mi_set_ne hga).trans ((mi_set_ne hpg.symm).trans hcg)) (v := .ref p) rfl ?_
    refine mi_callV okX5_reckon (mc := 0) (ms := 0) (mc' := 0) (ms' := 0) (b := p) (As := []) (st := [.ref a, .ref a]) rfl cv_RX5_82 rfl (by decide) hP hp ((mi_set_ne hpa).trans mi_set_self) rfl (Nat.le_of_ble_eq_true rfl) (c_gathered (h := mi_set (mi_set h p (.inr (2, [.long ((bl_mend v e).1), .int ((bl_mend v e).2)]))) a (.inr (6, [.int n, .ref b, .int q.1, .int q.2.1, .int q.2.2.1, .int (se_jd n q.1 q.2.1 q.2.2.1 ((bl_mend v e).1) ((bl_mend v e).2)), .long q.2.2.2.2.1, .int q.2.2.2.2.2.1, .int q.2.2.2.2.2.2.1, .int q.2.2.2.2.2.2.2]))) hP hp ((mi_set_ne hpa).trans mi_set_self)) (fun r h1 q => ?_)
    obtain ⟨rfl, e9⟩ := q; have e9 := e9.symm; subst e9
    change mi_W pP X kX5_reckon 4 0 0 53 [(0, .ref a), (1, .ref g)] [.long (ga_n ((bl_mend v e).1) 9), .ref a, .ref a] (mi_set (mi_set h p (.inr (2, [.long ((bl_mend v e).1), .int ((bl_mend v e).2)]))) a (.inr (6, [.int n, .ref b, .int q.1, .int q.2.1, .int q.2.2.1, .int (se_jd n q.1 q.2.1 q.2.2.1 ((bl_mend v e).1) ((bl_mend v e).2)), .long q.2.2.2.2.1, .int q.2.2.2.2.2.1, .int q.2.2.2.2.2.2.1, .int q.2.2.2.2.2.2.2]))) _
    refine mi_callV okX5_reckon (mc := 0) (ms := 0) (mc' := 0) (ms' := 0) (b := a) (As := [.long (ga_n ((bl_mend v e).1) 9)]) (st := [.ref a]) rfl cv_RX5_54 rfl (by decide) hE ha mi_set_self rfl (Nat.le_of_ble_eq_true rfl) (c_mixed (h := mi_set (mi_set h p (.inr (2, [.long ((bl_mend v e).1), .int ((bl_mend v e).2)]))) a (.inr (6, [.int n, .ref b, .int q.1, .int q.2.1, .int q.2.2.1, .int (se_jd n q.1 q.2.1 q.2.2.1 ((bl_mend v e).1) ((bl_mend v e).2)), .long q.2.2.2.2.1, .int q.2.2.2.2.2.1, .int q.2.2.2.2.2.2.1, .int q.2.2.2.2.2.2.2]))) (q := (q.1, q.2.1, q.2.2.1, (se_jd n q.1 q.2.1 q.2.2.1 ((bl_mend v e).1) ((bl_mend v e).2)), q.2.2.2.2.1, q.2.2.2.2.2.1, q.2.2.2.2.2.2.1, q.2.2.2.2.2.2.2)) hE ha mi_set_self) (fun r h1 q => ?_)
    obtain ⟨rfl, e9⟩ := q; have e9 := e9.symm; subst e9
    change mi_W pP X kX5_reckon 4 0 0 56 [(0, .ref a), (1, .ref g)] [.long (se_mix n (ga_n ((bl_mend v e).1) 9)), .ref a] (mi_set (mi_set h p (.inr (2, [.long ((bl_mend v e).1), .int ((bl_mend v e).2)]))) a (.inr (6, [.int n, .ref b, .int q.1, .int q.2.1, .int q.2.2.1, .int (se_jd n q.1 q.2.1 q.2.2.1 ((bl_mend v e).1) ((bl_mend v e).2)), .long q.2.2.2.2.1, .int q.2.2.2.2.2.1, .int q.2.2.2.2.2.2.1, .int q.2.2.2.2.2.2.2]))) _
    refine mi_putf' okX5_reckon rfl fd_RX5_34 hE ha mi_set_self (fs' := [.int n, .ref b, .int q.1, .int q.2.1, .int q.2.2.1, .int (se_jd n q.1 q.2.1 q.2.2.1 ((bl_mend v e).1) ((bl_mend v e).2)), .long (se_mix n (ga_n ((bl_mend v e).1) 9)), .int q.2.2.2.2.2.1, .int q.2.2.2.2.2.2.1, .int q.2.2.2.2.2.2.2]) rfl (Nat.le_of_ble_eq_true rfl) rfl rfl ?_
    rw [mi_set_set]
    refine mi_blk okX5_reckon 1 (pc' := 60) (lv' := [(0, .ref a), (1, .ref g)]) (st' := [.ref g]) rfl ?_
    refine mi_getf okX5_reckon rfl fg_RX5_106 hG hg ((mi_set_ne hga).trans ((mi_set_ne hpg.symm).trans hcg)) (v := .ref k) rfl ?_
    refine mi_blk okX5_reckon 1 (pc' := 64) (lv' := [(0, .ref a), (1, .ref g)]) (st' := [.ref a, .ref k]) rfl ?_
    refine mi_getf okX5_reckon rfl fg_RX5_12 hE ha mi_set_self (v := .ref b) rfl ?_
    refine mi_callV okX5_reckon (mc := 0) (ms := 0) (mc' := 0) (ms' := 0) (b := k) (As := [.ref b]) (st := []) rfl cv_RX5_110 rfl (by decide) hK hk ((mi_set_ne hka).trans ((mi_set_ne hkp).trans hck)) rfl (Nat.le_of_ble_eq_true rfl) (c_mark hX4 (h := mi_set (mi_set h p (.inr (2, [.long ((bl_mend v e).1), .int ((bl_mend v e).2)]))) a (.inr (6, [.int n, .ref b, .int q.1, .int q.2.1, .int q.2.2.1, .int (se_jd n q.1 q.2.1 q.2.2.1 ((bl_mend v e).1) ((bl_mend v e).2)), .long (se_mix n (ga_n ((bl_mend v e).1) 9)), .int q.2.2.2.2.2.1, .int q.2.2.2.2.2.2.1, .int q.2.2.2.2.2.2.2]))) hK hk hB hb ((mi_set_ne hba).trans ((mi_set_ne hpb.symm).trans hcb)) hkb.symm ((mi_set_ne hka).trans ((mi_set_ne hkp).trans hck))) (fun r h1 q => ?_)
    obtain ⟨rfl, e9⟩ := q; have e9 := e9.symm; subst e9
    change mi_W pP X kX5_reckon 4 0 0 70 [(0, .ref a), (1, .ref g)] [] (mi_set (mi_set (mi_set h p (.inr (2, [.long ((bl_mend v e).1), .int ((bl_mend v e).2)]))) a (.inr (6, [.int n, .ref b, .int q.1, .int q.2.1, .int q.2.2.1, .int (se_jd n q.1 q.2.1 q.2.2.1 ((bl_mend v e).1) ((bl_mend v e).2)), .long (se_mix n (ga_n ((bl_mend v e).1) 9)), .int q.2.2.2.2.2.1, .int q.2.2.2.2.2.2.1, .int q.2.2.2.2.2.2.2]))) k (.inr (5, [.int ((mk_all v 16).1.1), .int ((mk_all v 16).1.2.1), .int ((mk_all v 16).1.2.2.1), .int ((mk_all v 16).1.2.2.2)]))) _
    rw [mi_set_comm (a := a) (b := k) hka.symm]
    refine mi_blk okX5_reckon 1 (pc' := 71) (lv' := [(0, .ref a), (1, .ref g)]) (st' := [.ref a]) rfl ?_
    refine mi_blk okX5_reckon 1 (pc' := 72) (lv' := [(0, .ref a), (1, .ref g)]) (st' := [.ref g, .ref a]) rfl ?_
    refine mi_getf okX5_reckon rfl fg_RX5_106 hG hg ((mi_set_ne hga).trans ((mi_set_ne hkg.symm).trans ((mi_set_ne hpg.symm).trans hcg))) (v := .ref k) rfl ?_
    refine mi_getf okX5_reckon rfl fg_RX5_115 hK hk ((mi_set_ne hka).trans mi_set_self) (v := .int ((mk_all v 16).1.2.2.1)) rfl ?_
    refine mi_putf' okX5_reckon rfl fd_RX5_38 hE ha mi_set_self (fs' := [.int n, .ref b, .int q.1, .int q.2.1, .int q.2.2.1, .int (se_jd n q.1 q.2.1 q.2.2.1 ((bl_mend v e).1) ((bl_mend v e).2)), .long (se_mix n (ga_n ((bl_mend v e).1) 9)), .int ((mk_all v 16).1.2.2.1), .int q.2.2.2.2.2.2.1, .int q.2.2.2.2.2.2.2]) rfl (Nat.le_of_ble_eq_true rfl) rfl rfl ?_
    rw [mi_set_set]
    refine mi_blk okX5_reckon 2 (pc' := 83) (lv' := [(0, .ref a), (1, .ref g)]) (st' := [.ref g, .ref a]) rfl ?_
    refine mi_getf okX5_reckon rfl fg_RX5_106 hG hg ((mi_set_ne hga).trans ((mi_set_ne hkg.symm).trans ((mi_set_ne hpg.symm).trans hcg))) (v := .ref k) rfl ?_
    refine mi_getf okX5_reckon rfl fg_RX5_116 hK hk ((mi_set_ne hka).trans mi_set_self) (v := .int ((mk_all v 16).1.2.1)) rfl ?_
    refine mi_putf' okX5_reckon rfl fd_RX5_41 hE ha mi_set_self (fs' := [.int n, .ref b, .int q.1, .int q.2.1, .int q.2.2.1, .int (se_jd n q.1 q.2.1 q.2.2.1 ((bl_mend v e).1) ((bl_mend v e).2)), .long (se_mix n (ga_n ((bl_mend v e).1) 9)), .int ((mk_all v 16).1.2.2.1), .int ((mk_all v 16).1.2.1), .int q.2.2.2.2.2.2.2]) rfl (Nat.le_of_ble_eq_true rfl) rfl rfl ?_
    rw [mi_set_set]
    refine mi_blk okX5_reckon 2 (pc' := 94) (lv' := [(0, .ref a), (1, .ref g)]) (st' := [.ref g, .ref a]) rfl ?_
    refine mi_getf okX5_reckon rfl fg_RX5_106 hG hg ((mi_set_ne hga).trans ((mi_set_ne hkg.symm).trans ((mi_set_ne hpg.symm).trans hcg))) (v := .ref k) rfl ?_
    refine mi_getf okX5_reckon rfl fg_RX5_117 hK hk ((mi_set_ne hka).trans mi_set_self) (v := .int ((mk_all v 16).1.2.2.2)) rfl ?_
    refine mi_putf' okX5_reckon rfl fd_RX5_44 hE ha mi_set_self (fs' := [.int n, .ref b, .int q.1, .int q.2.1, .int q.2.2.1, .int (se_jd n q.1 q.2.1 q.2.2.1 ((bl_mend v e).1) ((bl_mend v e).2)), .long (se_mix n (ga_n ((bl_mend v e).1) 9)), .int ((mk_all v 16).1.2.2.1), .int ((mk_all v 16).1.2.1), .int ((mk_all v 16).1.2.2.2)]) rfl (Nat.le_of_ble_eq_true rfl) rfl rfl ?_
    rw [mi_set_set]
    exact mi_ret_v okX5_reckon rfl rfl ⟨rfl, by rw [se_rk, if_neg c_36]⟩
  · refine mi_ldc2 okX5_reckon (v := (-1 : Int64)) rfl kc_RX5_32 ?_
    refine mi_blk okX5_reckon 1 (pc' := 56) (lv' := [(0, .ref a), (1, .ref g)]) (st' := [.long (-1 : Int64), .ref a]) rfl ?_
    refine mi_putf' okX5_reckon rfl fd_RX5_34 hE ha mi_set_self (fs' := [.int n, .ref b, .int q.1, .int q.2.1, .int q.2.2.1, .int (se_jd n q.1 q.2.1 q.2.2.1 ((bl_mend v e).1) ((bl_mend v e).2)), .long (-1 : Int64), .int q.2.2.2.2.2.1, .int q.2.2.2.2.2.2.1, .int q.2.2.2.2.2.2.2]) rfl (Nat.le_of_ble_eq_true rfl) rfl rfl ?_
    rw [mi_set_set]
    refine mi_blk okX5_reckon 1 (pc' := 60) (lv' := [(0, .ref a), (1, .ref g)]) (st' := [.ref g]) rfl ?_
    refine mi_getf okX5_reckon rfl fg_RX5_106 hG hg ((mi_set_ne hga).trans ((mi_set_ne hpg.symm).trans hcg)) (v := .ref k) rfl ?_
    refine mi_blk okX5_reckon 1 (pc' := 64) (lv' := [(0, .ref a), (1, .ref g)]) (st' := [.ref a, .ref k]) rfl ?_
    refine mi_getf okX5_reckon rfl fg_RX5_12 hE ha mi_set_self (v := .ref b) rfl ?_
    refine mi_callV okX5_reckon (mc := 0) (ms := 0) (mc' := 0) (ms' := 0) (b := k) (As := [.ref b]) (st := []) rfl cv_RX5_110 rfl (by decide) hK hk ((mi_set_ne hka).trans ((mi_set_ne hkp).trans hck)) rfl (Nat.le_of_ble_eq_true rfl) (c_mark hX4 (h := mi_set (mi_set h p (.inr (2, [.long ((bl_mend v e).1), .int ((bl_mend v e).2)]))) a (.inr (6, [.int n, .ref b, .int q.1, .int q.2.1, .int q.2.2.1, .int (se_jd n q.1 q.2.1 q.2.2.1 ((bl_mend v e).1) ((bl_mend v e).2)), .long (-1 : Int64), .int q.2.2.2.2.2.1, .int q.2.2.2.2.2.2.1, .int q.2.2.2.2.2.2.2]))) hK hk hB hb ((mi_set_ne hba).trans ((mi_set_ne hpb.symm).trans hcb)) hkb.symm ((mi_set_ne hka).trans ((mi_set_ne hkp).trans hck))) (fun r h1 q => ?_)
    obtain ⟨rfl, e9⟩ := q; have e9 := e9.symm; subst e9
    change mi_W pP X kX5_reckon 4 0 0 70 [(0, .ref a), (1, .ref g)] [] (mi_set (mi_set (mi_set h p (.inr (2, [.long ((bl_mend v e).1), .int ((bl_mend v e).2)]))) a (.inr (6, [.int n, .ref b, .int q.1, .int q.2.1, .int q.2.2.1, .int (se_jd n q.1 q.2.1 q.2.2.1 ((bl_mend v e).1) ((bl_mend v e).2)), .long (-1 : Int64), .int q.2.2.2.2.2.1, .int q.2.2.2.2.2.2.1, .int q.2.2.2.2.2.2.2]))) k (.inr (5, [.int ((mk_all v 16).1.1), .int ((mk_all v 16).1.2.1), .int ((mk_all v 16).1.2.2.1), .int ((mk_all v 16).1.2.2.2)]))) _
    rw [mi_set_comm (a := a) (b := k) hka.symm]
    refine mi_blk okX5_reckon 1 (pc' := 71) (lv' := [(0, .ref a), (1, .ref g)]) (st' := [.ref a]) rfl ?_
    refine mi_blk okX5_reckon 1 (pc' := 72) (lv' := [(0, .ref a), (1, .ref g)]) (st' := [.ref g, .ref a]) rfl ?_
    refine mi_getf okX5_reckon rfl fg_RX5_106 hG hg ((mi_set_ne hga).trans ((mi_set_ne hkg.symm).trans ((mi_set_ne hpg.symm).trans hcg))) (v := .ref k) rfl ?_
    refine mi_getf okX5_reckon rfl fg_RX5_115 hK hk ((mi_set_ne hka).trans mi_set_self) (v := .int ((mk_all v 16).1.2.2.1)) rfl ?_
    refine mi_putf' okX5_reckon rfl fd_RX5_38 hE ha mi_set_self (fs' := [.int n, .ref b, .int q.1, .int q.2.1, .int q.2.2.1, .int (se_jd n q.1 q.2.1 q.2.2.1 ((bl_mend v e).1) ((bl_mend v e).2)), .long (-1 : Int64), .int ((mk_all v 16).1.2.2.1), .int q.2.2.2.2.2.2.1, .int q.2.2.2.2.2.2.2]) rfl (Nat.le_of_ble_eq_true rfl) rfl rfl ?_
    rw [mi_set_set]
    refine mi_blk okX5_reckon 2 (pc' := 83) (lv' := [(0, .ref a), (1, .ref g)]) (st' := [.ref g, .ref a]) rfl ?_
    refine mi_getf okX5_reckon rfl fg_RX5_106 hG hg ((mi_set_ne hga).trans ((mi_set_ne hkg.symm).trans ((mi_set_ne hpg.symm).trans hcg))) (v := .ref k) rfl ?_
    refine mi_getf okX5_reckon rfl fg_RX5_116 hK hk ((mi_set_ne hka).trans mi_set_self) (v := .int ((mk_all v 16).1.2.1)) rfl ?_
    refine mi_putf' okX5_reckon rfl fd_RX5_41 hE ha mi_set_self (fs' := [.int n, .ref b, .int q.1, .int q.2.1, .int q.2.2.1, .int (se_jd n q.1 q.2.1 q.2.2.1 ((bl_mend v e).1) ((bl_mend v e).2)), .long (-1 : Int64), .int ((mk_all v 16).1.2.2.1), .int ((mk_all v 16).1.2.1), .int q.2.2.2.2.2.2.2]) rfl (Nat.le_of_ble_eq_true rfl) rfl rfl ?_
    rw [mi_set_set]
    refine mi_blk okX5_reckon 2 (pc' := 94) (lv' := [(0, .ref a), (1, .ref g)]) (st' := [.ref g, .ref a]) rfl ?_
    refine mi_getf okX5_reckon rfl fg_RX5_106 hG hg ((mi_set_ne hga).trans ((mi_set_ne hkg.symm).trans ((mi_set_ne hpg.symm).trans hcg))) (v := .ref k) rfl ?_
    refine mi_getf okX5_reckon rfl fg_RX5_117 hK hk ((mi_set_ne hka).trans mi_set_self) (v := .int ((mk_all v 16).1.2.2.2)) rfl ?_
    refine mi_putf' okX5_reckon rfl fd_RX5_44 hE ha mi_set_self (fs' := [.int n, .ref b, .int q.1, .int q.2.1, .int q.2.2.1, .int (se_jd n q.1 q.2.1 q.2.2.1 ((bl_mend v e).1) ((bl_mend v e).2)), .long (-1 : Int64), .int ((mk_all v 16).1.2.2.1), .int ((mk_all v 16).1.2.1), .int ((mk_all v 16).1.2.2.2)]) rfl (Nat.le_of_ble_eq_true rfl) rfl rfl ?_
    rw [mi_set_set]
    exact mi_ret_v okX5_reckon rfl rfl ⟨rfl, by rw [se_rk, if_pos c_36]⟩
