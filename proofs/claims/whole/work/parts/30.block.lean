-- PitHouse$Block: 16 places of 4 bits each in v, the erased ones in e
def bl_at (v : Int64) (p : Int32) : Int32 := (mi_lushr v (4 * p)).toInt32 &&& 15
def bl_isE (e p : Int32) : Int32 := if mi_iushr e p &&& 1 = 1 then 1 else 0
def bl_put (v : Int64) (p x : Int32) : Int64 := (v &&& (mi_lshl 15 (4 * p) ^^^ -1)) ||| mi_lshl ((x &&& 15).toInt64) (4 * p)
def bl_pl (k : Int32) : Int32 := k / 3 * 4 + (k - k / 3 * 3)
abbrev bl_c (v : Int64) (e : Int32) : mi_C := .inr (2, [.long v, .int e])
/-- the erased ones of the first n places put to 0 -/
def bl_clr (e : Int32) (v : Int64) : Nat → Int64
  | 0 => v
  | n + 1 => if bl_isE e (nI n) = 1 then bl_put (bl_clr e v n) (nI n) 0 else bl_clr e v n
set_option maxHeartbeats 4000000 in
set_option maxRecDepth 100000 in
theorem c_placeOf {X : mi_X} {h : mi_H} {k : Int32} : mi_S pP X kX1_placeOf 0 [.int k] h 0 0 (fun r h1 => r = some (.int (bl_pl k)) ∧ h1 = h) := by
  refine enX1_placeOf (Nat.le_of_ble_eq_true rfl) ?_
  refine mi_blk okX1_placeOf 2 (pc' := 2) (lv' := [(0, .int k)]) (st' := [.int 3, .int k]) rfl ?_
  refine mi_idiv okX1_placeOf rfl (by decide) ?_
  refine mi_blk okX1_placeOf 4 (pc' := 7) (lv' := [(0, .int k)]) (st' := [.int 3, .int k, .int ((k / 3) * 4)]) rfl ?_
  refine mi_irem okX1_placeOf rfl (by decide) ?_
  refine mi_blk okX1_placeOf 1 (pc' := 9) (lv' := [(0, .int k)]) (st' := [.int (((k / 3) * 4) + (k - k / 3 * 3))]) rfl ?_
  exact mi_ret_i okX1_placeOf rfl rfl rfl ⟨rfl, rfl⟩
set_option maxHeartbeats 4000000 in
set_option maxRecDepth 100000 in
theorem c_valueAt {X : mi_X} {h : mi_H} {b : Nat} {v : Int64} {e : Int32} (hE : 5 ≤ b) (hb : b < h.1) (hc : h.2 b = bl_c v e) {p : Int32} : mi_S pP X kX1_valueAt 0 [.ref b, .int p] h 0 0 (fun r h1 => r = some (.int (bl_at v p)) ∧ h1 = h) := by
  refine enX1_valueAt (Nat.le_of_ble_eq_true rfl) ?_
  refine mi_blk okX1_valueAt 1 (pc' := 1) (lv' := [(0, .ref b), (1, .int p)]) (st' := [.ref b]) rfl ?_
  refine mi_getf okX1_valueAt rfl fg_RX1_9 hE hb hc (v := .long v) rfl ?_
  refine mi_blk okX1_valueAt 7 (pc' := 12) (lv' := [(0, .ref b), (1, .int p)]) (st' := [.int (((mi_lushr v (4 * p)).toInt32) &&& 15)]) rfl ?_
  exact mi_ret_i okX1_valueAt rfl rfl rfl ⟨rfl, rfl⟩
set_option maxHeartbeats 4000000 in
set_option maxRecDepth 100000 in
theorem c_isErased {X : mi_X} {h : mi_H} {b : Nat} {v : Int64} {e : Int32} (hE : 5 ≤ b) (hb : b < h.1) (hc : h.2 b = bl_c v e) {p : Int32} : mi_S pP X kX1_isErased 0 [.ref b, .int p] h 0 0 (fun r h1 => r = some (.int (bl_isE e p)) ∧ h1 = h) := by
  refine enX1_isErased (Nat.le_of_ble_eq_true rfl) ?_
  refine mi_blk okX1_isErased 1 (pc' := 1) (lv' := [(0, .ref b), (1, .int p)]) (st' := [.ref b]) rfl ?_
  refine mi_getf okX1_isErased rfl fg_RX1_15 hE hb hc (v := .int e) rfl ?_
  refine mi_blk okX1_isErased 5 (pc' := 9) (lv' := [(0, .ref b), (1, .int p)]) (st' := [.int 1, .int ((mi_iushr e p) &&& 1)]) rfl ?_
  refine mi_ic_ne okX1_isErased rfl rfl (fun c_9 => ?_) (fun c_9 => ?_)
  · refine mi_blk okX1_isErased 1 (pc' := 17) (lv' := [(0, .ref b), (1, .int p)]) (st' := [.int 0]) rfl ?_
    exact mi_ret_i okX1_isErased rfl rfl rfl ⟨by unfold bl_isE; rw [if_neg c_9], rfl⟩
  · refine mi_blk okX1_isErased 2 (pc' := 17) (lv' := [(0, .ref b), (1, .int p)]) (st' := [.int 1]) rfl ?_
    exact mi_ret_i okX1_isErased rfl rfl rfl ⟨by unfold bl_isE; rw [if_pos c_9], rfl⟩
set_option maxHeartbeats 4000000 in
set_option maxRecDepth 100000 in
theorem c_put {X : mi_X} {h : mi_H} {b : Nat} {v : Int64} {e : Int32} (hE : 5 ≤ b) (hb : b < h.1) (hc : h.2 b = bl_c v e) {p x : Int32} : mi_S pP X kX1_put 0 [.ref b, .int p, .int x] h 0 0 (fun r h1 => r = none ∧ h1 = mi_set h b (bl_c (bl_put v p x) e)) := by
  refine enX1_put (Nat.le_of_ble_eq_true rfl) ?_
  refine mi_blk okX1_put 2 (pc' := 2) (lv' := [(0, .ref b), (1, .int p), (2, .int x)]) (st' := [.ref b, .ref b]) rfl ?_
  refine mi_getf okX1_put rfl fg_RX1_9 hE hb hc (v := .long v) rfl ?_
  refine mi_ldc2 okX1_put (v := (15 : Int64)) rfl kc_RX1_19 ?_
  refine mi_blk okX1_put 4 (pc' := 12) (lv' := [(0, .ref b), (1, .int p), (2, .int x)]) (st' := [.long (mi_lshl (15 : Int64) (4 * p)), .long v, .ref b]) rfl ?_
  refine mi_ldc2 okX1_put (v := (-1 : Int64)) rfl kc_RX1_21 ?_
  refine mi_blk okX1_put 11 (pc' := 27) (lv' := [(0, .ref b), (1, .int p), (2, .int x)]) (st' := [.long ((v &&& ((mi_lshl (15 : Int64) (4 * p)) ^^^ (-1 : Int64))) ||| (mi_lshl ((x &&& 15).toInt64) (4 * p))), .ref b]) rfl ?_
  refine mi_putf' okX1_put rfl fd_RX1_9 hE hb hc (fs' := [.long ((v &&& ((mi_lshl (15 : Int64) (4 * p)) ^^^ (-1 : Int64))) ||| (mi_lshl ((x &&& 15).toInt64) (4 * p))), .int e]) rfl (Nat.le_of_ble_eq_true rfl) rfl rfl ?_
  exact mi_ret_v okX1_put rfl rfl ⟨rfl, rfl⟩
set_option maxHeartbeats 4000000 in
set_option maxRecDepth 100000 in
theorem c_copyFrom {X : mi_X} {h : mi_H} {b : Nat} {v : Int64} {e : Int32} (hE : 5 ≤ b) (hb : b < h.1) (hc : h.2 b = bl_c v e) {b2 : Nat} {v2 : Int64} {e2 : Int32} (hE2 : 5 ≤ b2) (hb2 : b2 < h.1) (hc2 : h.2 b2 = bl_c v2 e2) (hne : b2 ≠ b) : mi_S pP X kX1_copyFrom 0 [.ref b, .ref b2] h 0 0 (fun r h1 => r = none ∧ h1 = mi_set h b (bl_c v2 e2)) := by
  refine enX1_copyFrom (Nat.le_of_ble_eq_true rfl) ?_
  refine mi_blk okX1_copyFrom 2 (pc' := 2) (lv' := [(0, .ref b), (1, .ref b2)]) (st' := [.ref b2, .ref b]) rfl ?_
  refine mi_getf okX1_copyFrom rfl fg_RX1_9 hE2 hb2 hc2 (v := .long v2) rfl ?_
  refine mi_putf' okX1_copyFrom rfl fd_RX1_9 hE hb hc (fs' := [.long v2, .int e]) rfl (Nat.le_of_ble_eq_true rfl) rfl rfl ?_
  refine mi_blk okX1_copyFrom 2 (pc' := 10) (lv' := [(0, .ref b), (1, .ref b2)]) (st' := [.ref b2, .ref b]) rfl ?_
  refine mi_getf okX1_copyFrom rfl fg_RX1_15 hE2 hb2 ((mi_set_ne hne).trans hc2) (v := .int e2) rfl ?_
  refine mi_putf' okX1_copyFrom rfl fd_RX1_15 hE hb mi_set_self (fs' := [.long v2, .int e2]) rfl (Nat.le_of_ble_eq_true rfl) rfl rfl ?_
  rw [mi_set_set]
  exact mi_ret_v okX1_copyFrom rfl rfl ⟨rfl, rfl⟩
theorem bl_isE1 {e p : Int32} (h : ¬ bl_isE e p = 0) : bl_isE e p = 1 := by
  unfold bl_isE at h ⊢
  split
  · rfl
  · rename_i q; rw [if_neg q] at h; exact absurd rfl h
theorem bl_isE0 {e p : Int32} (h : bl_isE e p = 0) : ¬ bl_isE e p = 1 := by rw [h]; decide
set_option maxHeartbeats 4000000 in
set_option maxRecDepth 100000 in
theorem l_erase {X : mi_X} {h : mi_H} {b : Nat} {v : Int64} {e t : Int32} (hE : 5 ≤ b) (hb : b < h.1) {Q : Option Value → mi_H → Prop} (hQ : Q none (mi_set h b (bl_c (bl_clr e v 16) e))) : ∀ (n i : Nat), i + n = 16 → mi_W pP X kX1_erase 1 0 0 12 [(2, .int (nI i)), (0, .ref b), (1, .int t)] [] (mi_set h b (bl_c (bl_clr e v i) e)) Q := by
  intro n
  induction n with
  | zero =>
    intro i hi
    obtain rfl : i = 16 := by omega
    refine mi_blk okX1_erase 2 (pc' := 15) (lv' := [(2, .int (nI 16)), (0, .ref b), (1, .int t)]) (st' := [.int 16, .int (nI 16)]) rfl ?_
    refine mi_ic_ge okX1_erase rfl rfl (fun c_15 => ?_) (fun c_15 => absurd (by decide) c_15)
    exact mi_ret_v okX1_erase rfl rfl hQ
  | succ n ih =>
    intro i hi
    refine mi_blk okX1_erase 2 (pc' := 15) (lv' := [(2, .int (nI i)), (0, .ref b), (1, .int t)]) (st' := [.int 16, .int (nI i)]) rfl ?_
    refine mi_ic_ge okX1_erase rfl rfl (fun c_15 => absurd c_15 (nI_ge (a := i) (b := 16) (by omega) (by decide))) (fun c_15 => ?_)
    refine mi_blk okX1_erase 2 (pc' := 20) (lv' := [(2, .int (nI i)), (0, .ref b), (1, .int t)]) (st' := [.int (nI i), .ref b]) rfl ?_
    refine mi_callV okX1_erase (mc := 0) (ms := 0) (mc' := 0) (ms' := 0) (b := b) (As := [.int (nI i)]) (st := []) rfl cv_RX1_23 rfl (by decide) hE hb mi_set_self rfl (Nat.le_of_ble_eq_true rfl) (c_isErased (h := mi_set h b (bl_c (bl_clr e v i) e)) hE hb mi_set_self) (fun r h1 q => ?_)
    obtain ⟨rfl, rfl⟩ := q
    change mi_W pP X kX1_erase 1 0 0 23 [(2, .int (nI i)), (0, .ref b), (1, .int t)] [.int (bl_isE e (nI i))] (mi_set h b (bl_c (bl_clr e v i) e)) _
    refine mi_if_eq okX1_erase rfl rfl (fun c_23 => ?_) (fun c_23 => ?_)
    · refine mi_blk okX1_erase 2 (pc' := 12) (lv' := [(2, .int ((nI i) + 1)), (0, .ref b), (1, .int t)]) (st' := []) rfl ?_
      rw [← nI_succ]
      have e1 : bl_clr e v i = bl_clr e v (i + 1) := by rw [show bl_clr e v (i + 1) = if bl_isE e (nI i) = 1 then bl_put (bl_clr e v i) (nI i) 0 else bl_clr e v i from rfl, if_neg (bl_isE0 c_23)]
      rw [e1]
      exact (ih (i + 1) (by omega)).locs (by simp)
    · refine mi_blk okX1_erase 3 (pc' := 29) (lv' := [(2, .int (nI i)), (0, .ref b), (1, .int t)]) (st' := [.int 0, .int (nI i), .ref b]) rfl ?_
      refine mi_callV okX1_erase (mc := 0) (ms := 0) (mc' := 0) (ms' := 0) (b := b) (As := [.int (nI i), .int 0]) (st := []) rfl cv_RX1_27 rfl (by decide) hE hb mi_set_self rfl (Nat.le_of_ble_eq_true rfl) (c_put (h := mi_set h b (bl_c (bl_clr e v i) e)) hE hb mi_set_self) (fun r h1 q => ?_)
      obtain ⟨rfl, rfl⟩ := q
      change mi_W pP X kX1_erase 1 0 0 32 [(2, .int (nI i)), (0, .ref b), (1, .int t)] [] (mi_set (mi_set h b (bl_c (bl_clr e v i) e)) b (bl_c (bl_put (bl_clr e v i) (nI i) 0) e)) _
      rw [mi_set_set]
      refine mi_blk okX1_erase 2 (pc' := 12) (lv' := [(2, .int ((nI i) + 1)), (0, .ref b), (1, .int t)]) (st' := []) rfl ?_
      rw [← nI_succ]
      have e1 : bl_put (bl_clr e v i) (nI i) 0 = bl_clr e v (i + 1) := by rw [show bl_clr e v (i + 1) = if bl_isE e (nI i) = 1 then bl_put (bl_clr e v i) (nI i) 0 else bl_clr e v i from rfl, if_pos (bl_isE1 c_23)]
      rw [e1]
      exact (ih (i + 1) (by omega)).locs (by simp)
set_option maxHeartbeats 4000000 in
set_option maxRecDepth 100000 in
theorem c_erase {X : mi_X} {h : mi_H} {b : Nat} {v : Int64} {e : Int32} (hE : 5 ≤ b) (hb : b < h.1) (hc : h.2 b = bl_c v e) {t : Int32} : mi_S pP X kX1_erase 1 [.ref b, .int t] h 0 0 (fun r h1 => r = none ∧ h1 = mi_set h b (bl_c (bl_clr (e ||| t) v 16) (e ||| t))) := by
  refine enX1_erase (Nat.le_of_ble_eq_true rfl) ?_
  refine mi_blk okX1_erase 2 (pc' := 2) (lv' := [(0, .ref b), (1, .int t)]) (st' := [.ref b, .ref b]) rfl ?_
  refine mi_getf okX1_erase rfl fg_RX1_15 hE hb hc (v := .int e) rfl ?_
  refine mi_blk okX1_erase 2 (pc' := 7) (lv' := [(0, .ref b), (1, .int t)]) (st' := [.int (e ||| t), .ref b]) rfl ?_
  refine mi_putf' okX1_erase rfl fd_RX1_15 hE hb hc (fs' := [.long v, .int (e ||| t)]) rfl (Nat.le_of_ble_eq_true rfl) rfl rfl ?_
  refine mi_blk okX1_erase 2 (pc' := 12) (lv' := [(2, .int 0), (0, .ref b), (1, .int t)]) (st' := []) rfl ?_
  exact l_erase (v := v) (e := e ||| t) (t := t) hE hb ⟨rfl, rfl⟩ 16 0 rfl
