-- PitHouse$Block: 16 places of 4 bits each in v, the erased ones in e
def bl_at (v : Int64) (p : Int32) : Int32 := (mi_lushr v (4 * p)).toInt32 &&& 15
def bl_isE (e p : Int32) : Int32 := if mi_iushr e p &&& 1 = 1 then 1 else 0
def bl_put (v : Int64) (p x : Int32) : Int64 := (v &&& (mi_lshl 15 (4 * p) ^^^ -1)) ||| mi_lshl ((x &&& 15).toInt64) (4 * p)
def bl_pl (k : Int32) : Int32 := k / 3 * 4 + (k - k / 3 * 3)
abbrev bl_c (v : Int64) (e : Int32) : mi_C := .inr (2, [.long v, .int e])
/-- the erased ones of the first n places put to 0 -/
def bl_clr (e : Int32) (v : Int64) : Nat → Int64
  | 0 => v
  | n + 1 => if bl_isE e (nI n) = 1 then bl_put (bl_clr e v n) (nI n) 0 else bl_clr e v n
set_option maxHeartbeats 4000000 in
set_option maxRecDepth 100000 in
theorem c_placeOf {X : mi_X} {h : mi_H} {k : Int32} : mi_S pP X kX1_placeOf 0 [.int k] h 0 0 (fun r h1 => r = some (.int (bl_pl k)) ∧ h1 = h) := by
  refine enX1_placeOf (Nat.le_of_ble_eq_true rfl) ?_
  refine mi_blk okX1_placeOf 2 (pc' := 2) (lv' := [(0, .int k)]) (st' := [.int 3, .int k]) rfl ?_
  refine mi_idiv okX1_placeOf rfl (by decide) ?_
  refine mi_blk okX1_placeOf 4 (pc' := 7) (lv' := [(0, .int k)]) (st' := [.int 3, .int k, .int ((k / 3) * 4)]) rfl ?_
  refine mi_irem okX1_placeOf rfl (by decide) ?_
  refine mi_blk okX1_placeOf 1 (pc' := 9) (lv' := [(0, .int k)]) (st' := [.int (((k / 3) * 4) + (k - k / 3 * 3))]) rfl ?_
  exact mi_ret_i okX1_placeOf rfl rfl rfl ⟨rfl, rfl⟩
set_option maxHeartbeats 4000000 in
set_option maxRecDepth 100000 in
theorem c_valueAt {X : mi_X} {h : mi_H} {b : Nat} {v : Int64} {e : Int32} (hE : 6 ≤ b) (hb : b < h.1) (hc : h.2 b = bl_c v e) {p : Int32} : mi_S pP X kX1_valueAt 0 [.ref b, .int p] h 0 0 (fun r h1 => r = some (.int (bl_at v p)) ∧ h1 = h) := by
  refine enX1_valueAt (Nat.le_of_ble_eq_true rfl) ?_
  refine mi_blk okX1_valueAt 1 (pc' := 1) (lv' := [(0, .ref b), (1, .int p)]) (st' := [.ref b]) rfl ?_
  refine mi_getf okX1_valueAt rfl fg_RX1_9 hE hb hc (v := .long v) rfl ?_
  refine mi_blk okX1_valueAt 7 (pc' := 12) (lv' := [(0, .ref b), (1, .int p)]) (st' := [.int (((mi_lushr v (4 * p)).toInt32) &&& 15)]) rfl ?_
  exact mi_ret_i okX1_valueAt rfl rfl rfl ⟨rfl, rfl⟩
set_option maxHeartbeats 4000000 in
set_option maxRecDepth 100000 in
theorem c_isErased {X : mi_X} {h : mi_H} {b : Nat} {v : Int64} {e : Int32} (hE : 6 ≤ b) (hb : b < h.1) (hc : h.2 b = bl_c v e) {p : Int32} : mi_S pP X kX1_isErased 0 [.ref b, .int p] h 0 0 (fun r h1 => r = some (.int (bl_isE e p)) ∧ h1 = h) := by
  refine enX1_isErased (Nat.le_of_ble_eq_true rfl) ?_
  refine mi_blk okX1_isErased 1 (pc' := 1) (lv' := [(0, .ref b), (1, .int p)]) (st' := [.ref b]) rfl ?_
  refine mi_getf okX1_isErased rfl fg_RX1_15 hE hb hc (v := .int e) rfl ?_
  refine mi_blk okX1_isErased 5 (pc' := 9) (lv' := [(0, .ref b), (1, .int p)]) (st' := [.int 1, .int ((mi_iushr e p) &&& 1)]) rfl ?_
  refine mi_ic_ne okX1_isErased rfl rfl (fun c_9 => ?_) (fun c_9 => ?_)
  · refine mi_blk okX1_isErased 1 (pc' := 17) (lv' := [(0, .ref b), (1, .int p)]) (st' := [.int 0]) rfl ?_
    exact mi_ret_i okX1_isErased rfl rfl rfl ⟨by unfold bl_isE; rw [if_neg c_9], rfl⟩
  · refine mi_blk okX1_isErased 2 (pc' := 17) (lv' := [(0, .ref b), (1, .int p)]) (st' := [.int 1]) rfl ?_
    exact mi_ret_i okX1_isErased rfl rfl rfl ⟨by unfold bl_isE; rw [if_pos c_9], rfl⟩
set_option maxHeartbeats 4000000 in
set_option maxRecDepth 100000 in
theorem c_put {X : mi_X} {h : mi_H} {b : Nat} {v : Int64} {e : Int32} (hE : 6 ≤ b) (hb : b < h.1) (hc : h.2 b = bl_c v e) {p x : Int32} : mi_S pP X kX1_put 0 [.ref b, .int p, .int x] h 0 0 (fun r h1 => r = none ∧ h1 = mi_set h b (bl_c (bl_put v p x) e)) := by
  refine enX1_put (Nat.le_of_ble_eq_true rfl) ?_
  refine mi_blk okX1_put 2 (pc' := 2) (lv' := [(0, .ref b), (1, .int p), (2, .int x)]) (st' := [.ref b, .ref b]) rfl ?_
  refine mi_getf okX1_put rfl fg_RX1_9 hE hb hc (v := .long v) rfl ?_
  refine mi_ldc2 okX1_put (v := (15 : Int64)) rfl kc_RX1_19 ?_
  refine mi_blk okX1_put 4 (pc' := 12) (lv' := [(0, .ref b), (1, .int p), (2, .int x)]) (st' := [.long (mi_lshl (15 : Int64) (4 * p)), .long v, .ref b]) rfl ?_
  refine mi_ldc2 okX1_put (v := (-1 : Int64)) rfl kc_RX1_21 ?_
  refine mi_blk okX1_put 11 (pc' := 27) (lv' := [(0, .ref b), (1, .int p), (2, .int x)]) (st' := [.long ((v &&& ((mi_lshl (15 : Int64) (4 * p)) ^^^ (-1 : Int64))) ||| (mi_lshl ((x &&& 15).toInt64) (4 * p))), .ref b]) rfl ?_
  refine mi_putf' okX1_put rfl fd_RX1_9 hE hb hc (fs' := [.long ((v &&& ((mi_lshl (15 : Int64) (4 * p)) ^^^ (-1 : Int64))) ||| (mi_lshl ((x &&& 15).toInt64) (4 * p))), .int e]) rfl (Nat.le_of_ble_eq_true rfl) rfl rfl ?_
  exact mi_ret_v okX1_put rfl rfl ⟨rfl, rfl⟩
set_option maxHeartbeats 4000000 in
set_option maxRecDepth 100000 in
theorem c_copyFrom {X : mi_X} {h : mi_H} {b : Nat} {v : Int64} {e : Int32} (hE : 6 ≤ b) (hb : b < h.1) (hc : h.2 b = bl_c v e) {b2 : Nat} {v2 : Int64} {e2 : Int32} (hE2 : 6 ≤ b2) (hb2 : b2 < h.1) (hc2 : h.2 b2 = bl_c v2 e2) (hne : b2 ≠ b) : mi_S pP X kX1_copyFrom 0 [.ref b, .ref b2] h 0 0 (fun r h1 => r = none ∧ h1 = mi_set h b (bl_c v2 e2)) := by
  refine enX1_copyFrom (Nat.le_of_ble_eq_true rfl) ?_
  refine mi_blk okX1_copyFrom 2 (pc' := 2) (lv' := [(0, .ref b), (1, .ref b2)]) (st' := [.ref b2, .ref b]) rfl ?_
  refine mi_getf okX1_copyFrom rfl fg_RX1_9 hE2 hb2 hc2 (v := .long v2) rfl ?_
  refine mi_putf' okX1_copyFrom rfl fd_RX1_9 hE hb hc (fs' := [.long v2, .int e]) rfl (Nat.le_of_ble_eq_true rfl) rfl rfl ?_
  refine mi_blk okX1_copyFrom 2 (pc' := 10) (lv' := [(0, .ref b), (1, .ref b2)]) (st' := [.ref b2, .ref b]) rfl ?_
  refine mi_getf okX1_copyFrom rfl fg_RX1_15 hE2 hb2 ((mi_set_ne hne).trans hc2) (v := .int e2) rfl ?_
  refine mi_putf' okX1_copyFrom rfl fd_RX1_15 hE hb mi_set_self (fs' := [.long v2, .int e2]) rfl (Nat.le_of_ble_eq_true rfl) rfl rfl ?_
  rw [mi_set_set]
  exact mi_ret_v okX1_copyFrom rfl rfl ⟨rfl, rfl⟩
theorem bl_isE1 {e p : Int32} (h : ¬ bl_isE e p = 0) : bl_isE e p = 1 := by
  unfold bl_isE at h ⊢
  split
  · rfl
  · rename_i q; rw [if_neg q] at h; exact absurd rfl h
theorem bl_isE0 {e p : Int32} (h : bl_isE e p = 0) : ¬ bl_isE e p = 1 := by rw [h]; decide
set_option maxHeartbeats 4000000 in
set_option maxRecDepth 100000 in
theorem l_erase {X : mi_X} {h : mi_H} {b : Nat} {v : Int64} {e t : Int32} (hE : 6 ≤ b) (hb : b < h.1) {Q : Option Value → mi_H → Prop} (hQ : Q none (mi_set h b (bl_c (bl_clr e v 16) e))) : ∀ (n i : Nat), i + n = 16 → mi_W pP X kX1_erase 1 0 0 12 [(2, .int (nI i)), (0, .ref b), (1, .int t)] [] (mi_set h b (bl_c (bl_clr e v i) e)) Q := by
  intro n
  induction n with
  | zero =>
    intro i hi
    obtain rfl : i = 16 := by omega
    refine mi_blk okX1_erase 2 (pc' := 15) (lv' := [(2, .int (nI 16)), (0, .ref b), (1, .int t)]) (st' := [.int 16, .int (nI 16)]) rfl ?_
    refine mi_ic_ge okX1_erase rfl rfl (fun c_15 => ?_) (fun c_15 => absurd (by decide) c_15)
    exact mi_ret_v okX1_erase rfl rfl hQ
  | succ n ih =>
    intro i hi
    refine mi_blk okX1_erase 2 (pc' := 15) (lv' := [(2, .int (nI i)), (0, .ref b), (1, .int t)]) (st' := [.int 16, .int (nI i)]) rfl ?_
    refine mi_ic_ge okX1_erase rfl rfl (fun c_15 => absurd c_15 (nI_ge (a := i) (b := 16) (by omega) (by decide))) (fun c_15 => ?_)
    refine mi_blk okX1_erase 2 (pc' := 20) (lv' := [(2, .int (nI i)), (0, .ref b), (1, .int t)]) (st' := [.int (nI i), .ref b]) rfl ?_
    refine mi_callV okX1_erase (mc := 0) (ms := 0) (mc' := 0) (ms' := 0) (b := b) (As := [.int (nI i)]) (st := []) rfl cv_RX1_23 rfl (by decide) hE hb mi_set_self rfl (Nat.le_of_ble_eq_true rfl) (c_isErased (h := mi_set h b (bl_c (bl_clr e v i) e)) hE hb mi_set_self) (fun r h1 q => ?_)
    obtain ⟨rfl, e9⟩ := q; have e9 := e9.symm; subst e9
    change mi_W pP X kX1_erase 1 0 0 23 [(2, .int (nI i)), (0, .ref b), (1, .int t)] [.int (bl_isE e (nI i))] (mi_set h b (bl_c (bl_clr e v i) e)) _
    refine mi_if_eq okX1_erase rfl rfl (fun c_23 => ?_) (fun c_23 => ?_)
    · refine mi_blk okX1_erase 2 (pc' := 12) (lv' := [(2, .int ((nI i) + 1)), (0, .ref b), (1, .int t)]) (st' := []) rfl ?_
      rw [← nI_succ]
      have e1 : bl_clr e v i = bl_clr e v (i + 1) := by rw [show bl_clr e v (i + 1) = if bl_isE e (nI i) = 1 then bl_put (bl_clr e v i) (nI i) 0 else bl_clr e v i from rfl, if_neg (bl_isE0 c_23)]
      rw [e1]
      exact (ih (i + 1) (by omega)).locs (by simp)
    · refine mi_blk okX1_erase 3 (pc' := 29) (lv' := [(2, .int (nI i)), (0, .ref b), (1, .int t)]) (st' := [.int 0, .int (nI i), .ref b]) rfl ?_
      refine mi_callV okX1_erase (mc := 0) (ms := 0) (mc' := 0) (ms' := 0) (b := b) (As := [.int (nI i), .int 0]) (st := []) rfl cv_RX1_27 rfl (by decide) hE hb mi_set_self rfl (Nat.le_of_ble_eq_true rfl) (c_put (h := mi_set h b (bl_c (bl_clr e v i) e)) hE hb mi_set_self) (fun r h1 q => ?_)
      obtain ⟨rfl, e9⟩ := q; have e9 := e9.symm; subst e9
      change mi_W pP X kX1_erase 1 0 0 32 [(2, .int (nI i)), (0, .ref b), (1, .int t)] [] (mi_set (mi_set h b (bl_c (bl_clr e v i) e)) b (bl_c (bl_put (bl_clr e v i) (nI i) 0) e)) _
      rw [mi_set_set]
      refine mi_blk okX1_erase 2 (pc' := 12) (lv' := [(2, .int ((nI i) + 1)), (0, .ref b), (1, .int t)]) (st' := []) rfl ?_
      rw [← nI_succ]
      have e1 : bl_put (bl_clr e v i) (nI i) 0 = bl_clr e v (i + 1) := by rw [show bl_clr e v (i + 1) = if bl_isE e (nI i) = 1 then bl_put (bl_clr e v i) (nI i) 0 else bl_clr e v i from rfl, if_pos (bl_isE1 c_23)]
      rw [e1]
      exact (ih (i + 1) (by omega)).locs (by simp)
set_option maxHeartbeats 4000000 in
set_option maxRecDepth 100000 in
theorem c_erase {X : mi_X} {h : mi_H} {b : Nat} {v : Int64} {e : Int32} (hE : 6 ≤ b) (hb : b < h.1) (hc : h.2 b = bl_c v e) {t : Int32} : mi_S pP X kX1_erase 1 [.ref b, .int t] h 0 0 (fun r h1 => r = none ∧ h1 = mi_set h b (bl_c (bl_clr (e ||| t) v 16) (e ||| t))) := by
  refine enX1_erase (Nat.le_of_ble_eq_true rfl) ?_
  refine mi_blk okX1_erase 2 (pc' := 2) (lv' := [(0, .ref b), (1, .int t)]) (st' := [.ref b, .ref b]) rfl ?_
  refine mi_getf okX1_erase rfl fg_RX1_15 hE hb hc (v := .int e) rfl ?_
  refine mi_blk okX1_erase 2 (pc' := 7) (lv' := [(0, .ref b), (1, .int t)]) (st' := [.int (e ||| t), .ref b]) rfl ?_
  refine mi_putf' okX1_erase rfl fd_RX1_15 hE hb hc (fs' := [.long v, .int (e ||| t)]) rfl (Nat.le_of_ble_eq_true rfl) rfl rfl ?_
  refine mi_blk okX1_erase 2 (pc' := 12) (lv' := [(2, .int 0), (0, .ref b), (1, .int t)]) (st' := []) rfl ?_
  exact l_erase (v := v) (e := e ||| t) (t := t) hE hb ⟨rfl, rfl⟩ 16 0 rfl
def ib_1 (x : Int32) : Int32 := x - (mi_iushr x 1 &&& 1431655765)
def ib_2 (x : Int32) : Int32 := (x &&& 858993459) + (mi_iushr x 2 &&& 858993459)
def ib_3 (x : Int32) : Int32 := (x + mi_iushr x 4) &&& 252645135
def ib_4 (x : Int32) : Int32 := x + mi_iushr x 8
def ib_5 (x : Int32) : Int32 := x + mi_iushr x 16
def ib_bc (x : Int32) : Int32 := ib_5 (ib_4 (ib_3 (ib_2 (ib_1 x)))) &&& 63
set_option maxHeartbeats 4000000 in
set_option maxRecDepth 100000 in
theorem c_bitCount {X : mi_X} {h : mi_H} {x : Int32} : mi_S pP X kJ6_bitCount_0f7a4 0 [.int x] h 0 0 (fun r h1 => r = some (.int (ib_bc x)) ∧ h1 = h) := by
  refine enJ6_bitCount_0f7a4 (Nat.le_of_ble_eq_true rfl) ?_
  refine mi_blk okJ6_bitCount_0f7a4 4 (pc' := 4) (lv' := [(0, .int x)]) (st' := [.int (mi_iushr x 1), .int x]) rfl ?_
  refine mi_ldcw okJ6_bitCount_0f7a4 (v := (1431655765 : Int32)) rfl kc_RJ6_265 ?_
  refine mi_blk okJ6_bitCount_0f7a4 3 (pc' := 10) (lv' := [(0, .int (x - ((mi_iushr x 1) &&& (1431655765 : Int32))))]) (st' := []) rfl ?_
  change mi_W pP X kJ6_bitCount_0f7a4 0 0 0 10 [(0, .int (ib_1 x))] [] h _
  refine mi_blk okJ6_bitCount_0f7a4 1 (pc' := 11) (lv' := [(0, .int (ib_1 x))]) (st' := [.int (ib_1 x)]) rfl ?_
  refine mi_ldcw okJ6_bitCount_0f7a4 (v := (858993459 : Int32)) rfl kc_RJ6_266 ?_
  refine mi_blk okJ6_bitCount_0f7a4 4 (pc' := 18) (lv' := [(0, .int (ib_1 x))]) (st' := [.int (mi_iushr (ib_1 x) 2), .int ((ib_1 x) &&& (858993459 : Int32))]) rfl ?_
  refine mi_ldcw okJ6_bitCount_0f7a4 (v := (858993459 : Int32)) rfl kc_RJ6_266 ?_
  refine mi_blk okJ6_bitCount_0f7a4 3 (pc' := 24) (lv' := [(0, .int (((ib_1 x) &&& (858993459 : Int32)) + ((mi_iushr (ib_1 x) 2) &&& (858993459 : Int32))))]) (st' := []) rfl ?_
  change mi_W pP X kJ6_bitCount_0f7a4 0 0 0 24 [(0, .int (ib_2 (ib_1 x)))] [] h _
  refine mi_blk okJ6_bitCount_0f7a4 1 (pc' := 25) (lv' := [(0, .int (ib_2 (ib_1 x)))]) (st' := [.int (ib_2 (ib_1 x))]) rfl ?_
  refine mi_blk okJ6_bitCount_0f7a4 4 (pc' := 29) (lv' := [(0, .int (ib_2 (ib_1 x)))]) (st' := [.int ((ib_2 (ib_1 x)) + (mi_iushr (ib_2 (ib_1 x)) 4))]) rfl ?_
  refine mi_ldcw okJ6_bitCount_0f7a4 (v := (252645135 : Int32)) rfl kc_RJ6_267 ?_
  refine mi_blk okJ6_bitCount_0f7a4 2 (pc' := 34) (lv' := [(0, .int (((ib_2 (ib_1 x)) + (mi_iushr (ib_2 (ib_1 x)) 4)) &&& (252645135 : Int32)))]) (st' := []) rfl ?_
  change mi_W pP X kJ6_bitCount_0f7a4 0 0 0 34 [(0, .int (ib_3 (ib_2 (ib_1 x))))] [] h _
  refine mi_blk okJ6_bitCount_0f7a4 1 (pc' := 35) (lv' := [(0, .int (ib_3 (ib_2 (ib_1 x))))]) (st' := [.int (ib_3 (ib_2 (ib_1 x)))]) rfl ?_
  refine mi_blk okJ6_bitCount_0f7a4 5 (pc' := 41) (lv' := [(0, .int ((ib_3 (ib_2 (ib_1 x))) + (mi_iushr (ib_3 (ib_2 (ib_1 x))) 8)))]) (st' := []) rfl ?_
  change mi_W pP X kJ6_bitCount_0f7a4 0 0 0 41 [(0, .int (ib_4 (ib_3 (ib_2 (ib_1 x)))))] [] h _
  refine mi_blk okJ6_bitCount_0f7a4 1 (pc' := 42) (lv' := [(0, .int (ib_4 (ib_3 (ib_2 (ib_1 x)))))]) (st' := [.int (ib_4 (ib_3 (ib_2 (ib_1 x))))]) rfl ?_
  refine mi_blk okJ6_bitCount_0f7a4 5 (pc' := 48) (lv' := [(0, .int ((ib_4 (ib_3 (ib_2 (ib_1 x)))) + (mi_iushr (ib_4 (ib_3 (ib_2 (ib_1 x)))) 16)))]) (st' := []) rfl ?_
  change mi_W pP X kJ6_bitCount_0f7a4 0 0 0 48 [(0, .int (ib_5 (ib_4 (ib_3 (ib_2 (ib_1 x))))))] [] h _
  refine mi_blk okJ6_bitCount_0f7a4 1 (pc' := 49) (lv' := [(0, .int (ib_5 (ib_4 (ib_3 (ib_2 (ib_1 x))))))]) (st' := [.int (ib_5 (ib_4 (ib_3 (ib_2 (ib_1 x)))))]) rfl ?_
  refine mi_blk okJ6_bitCount_0f7a4 2 (pc' := 52) (lv' := [(0, .int (ib_5 (ib_4 (ib_3 (ib_2 (ib_1 x))))))]) (st' := [.int ((ib_5 (ib_4 (ib_3 (ib_2 (ib_1 x))))) &&& 63)]) rfl ?_
  exact mi_ret_i okJ6_bitCount_0f7a4 rfl rfl rfl ⟨rfl, rfl⟩
def tz_5 (n x : Int32) : Int32 := n + mi_iushr x 1
def tz_4 (n x : Int32) : Int32 := if x ≤ 4 then tz_5 n x else tz_5 (n + 2) (mi_iushr x 2)
def tz_3 (n x : Int32) : Int32 := if x ≤ 16 then tz_4 n x else tz_4 (n + 4) (mi_iushr x 4)
def tz_2 (n x : Int32) : Int32 := if x ≤ 256 then tz_3 n x else tz_3 (n + 8) (mi_iushr x 8)
def tz_1 (n x : Int32) : Int32 := if x ≤ 65536 then tz_2 n x else tz_2 (n + 16) (mi_iushr x 16)
def bl_tz (x : Int32) : Int32 := if 0 < (x ^^^ -1) &&& (x - 1) then tz_1 1 ((x ^^^ -1) &&& (x - 1)) else ((x ^^^ -1) &&& (x - 1)) &&& 32
set_option maxHeartbeats 4000000 in
set_option maxRecDepth 100000 in
theorem c_ntz {X : mi_X} {h : mi_H} {x : Int32} : mi_S pP X kJ6_numberOfTrailingZeros_0f7a4 0 [.int x] h 0 0 (fun r h1 => r = some (.int (bl_tz x)) ∧ h1 = h) := by
  refine enJ6_numberOfTrailingZeros_0f7a4 (Nat.le_of_ble_eq_true rfl) ?_
  refine mi_blk okJ6_numberOfTrailingZeros_0f7a4 9 (pc' := 9) (lv' := [(0, .int ((x ^^^ (-1)) &&& (x - 1)))]) (st' := [.int ((x ^^^ (-1)) &&& (x - 1))]) rfl ?_
  refine mi_if_gt okJ6_numberOfTrailingZeros_0f7a4 rfl rfl (fun c_9 => ?_) (fun c_9 => ?_)
  · refine mi_blk okJ6_numberOfTrailingZeros_0f7a4 3 (pc' := 20) (lv' := [(1, .int 1), (0, .int ((x ^^^ (-1)) &&& (x - 1)))]) (st' := [.int ((x ^^^ (-1)) &&& (x - 1))]) rfl ?_
    refine mi_ldcw okJ6_numberOfTrailingZeros_0f7a4 (v := (65536 : Int32)) rfl kc_RJ6_264 ?_
    refine mi_ic_le okJ6_numberOfTrailingZeros_0f7a4 rfl rfl (fun c_23 => ?_) (fun c_23 => ?_)
    · refine mi_blk okJ6_numberOfTrailingZeros_0f7a4 2 (pc' := 38) (lv' := [(1, .int 1), (0, .int ((x ^^^ (-1)) &&& (x - 1)))]) (st' := [.int 256, .int ((x ^^^ (-1)) &&& (x - 1))]) rfl ?_
      refine mi_ic_le okJ6_numberOfTrailingZeros_0f7a4 rfl rfl (fun c_38 => ?_) (fun c_38 => ?_)
      · refine mi_blk okJ6_numberOfTrailingZeros_0f7a4 2 (pc' := 52) (lv' := [(1, .int 1), (0, .int ((x ^^^ (-1)) &&& (x - 1)))]) (st' := [.int 16, .int ((x ^^^ (-1)) &&& (x - 1))]) rfl ?_
        refine mi_ic_le okJ6_numberOfTrailingZeros_0f7a4 rfl rfl (fun c_52 => ?_) (fun c_52 => ?_)
        · refine mi_blk okJ6_numberOfTrailingZeros_0f7a4 2 (pc' := 64) (lv' := [(1, .int 1), (0, .int ((x ^^^ (-1)) &&& (x - 1)))]) (st' := [.int 4, .int ((x ^^^ (-1)) &&& (x - 1))]) rfl ?_
          refine mi_ic_le okJ6_numberOfTrailingZeros_0f7a4 rfl rfl (fun c_64 => ?_) (fun c_64 => ?_)
          · refine mi_blk okJ6_numberOfTrailingZeros_0f7a4 5 (pc' := 79) (lv' := [(1, .int 1), (0, .int ((x ^^^ (-1)) &&& (x - 1)))]) (st' := [.int (1 + (mi_iushr ((x ^^^ (-1)) &&& (x - 1)) 1))]) rfl ?_
            exact mi_ret_i okJ6_numberOfTrailingZeros_0f7a4 rfl rfl rfl ⟨by rw [bl_tz, if_pos c_9, tz_1, if_pos c_23, tz_2, if_pos c_38, tz_3, if_pos c_52, tz_4, if_pos c_64, tz_5], rfl⟩
          · refine mi_blk okJ6_numberOfTrailingZeros_0f7a4 10 (pc' := 79) (lv' := [(0, .int (mi_iushr ((x ^^^ (-1)) &&& (x - 1)) 2)), (1, .int (1 + 2))]) (st' := [.int ((1 + 2) + (mi_iushr (mi_iushr ((x ^^^ (-1)) &&& (x - 1)) 2) 1))]) rfl ?_
            exact mi_ret_i okJ6_numberOfTrailingZeros_0f7a4 rfl rfl rfl ⟨by rw [bl_tz, if_pos c_9, tz_1, if_pos c_23, tz_2, if_pos c_38, tz_3, if_pos c_52, tz_4, if_neg c_64, tz_5], rfl⟩
        · refine mi_blk okJ6_numberOfTrailingZeros_0f7a4 7 (pc' := 64) (lv' := [(0, .int (mi_iushr ((x ^^^ (-1)) &&& (x - 1)) 4)), (1, .int (1 + 4))]) (st' := [.int 4, .int (mi_iushr ((x ^^^ (-1)) &&& (x - 1)) 4)]) rfl ?_
          refine mi_ic_le okJ6_numberOfTrailingZeros_0f7a4 rfl rfl (fun c_64 => ?_) (fun c_64 => ?_)
          · refine mi_blk okJ6_numberOfTrailingZeros_0f7a4 5 (pc' := 79) (lv' := [(0, .int (mi_iushr ((x ^^^ (-1)) &&& (x - 1)) 4)), (1, .int (1 + 4))]) (st' := [.int ((1 + 4) + (mi_iushr (mi_iushr ((x ^^^ (-1)) &&& (x - 1)) 4) 1))]) rfl ?_
            exact mi_ret_i okJ6_numberOfTrailingZeros_0f7a4 rfl rfl rfl ⟨by rw [bl_tz, if_pos c_9, tz_1, if_pos c_23, tz_2, if_pos c_38, tz_3, if_neg c_52, tz_4, if_pos c_64, tz_5], rfl⟩
          · refine mi_blk okJ6_numberOfTrailingZeros_0f7a4 10 (pc' := 79) (lv' := [(0, .int (mi_iushr (mi_iushr ((x ^^^ (-1)) &&& (x - 1)) 4) 2)), (1, .int ((1 + 4) + 2))]) (st' := [.int (((1 + 4) + 2) + (mi_iushr (mi_iushr (mi_iushr ((x ^^^ (-1)) &&& (x - 1)) 4) 2) 1))]) rfl ?_
            exact mi_ret_i okJ6_numberOfTrailingZeros_0f7a4 rfl rfl rfl ⟨by rw [bl_tz, if_pos c_9, tz_1, if_pos c_23, tz_2, if_pos c_38, tz_3, if_neg c_52, tz_4, if_neg c_64, tz_5], rfl⟩
      · refine mi_blk okJ6_numberOfTrailingZeros_0f7a4 7 (pc' := 52) (lv' := [(0, .int (mi_iushr ((x ^^^ (-1)) &&& (x - 1)) 8)), (1, .int (1 + 8))]) (st' := [.int 16, .int (mi_iushr ((x ^^^ (-1)) &&& (x - 1)) 8)]) rfl ?_
        refine mi_ic_le okJ6_numberOfTrailingZeros_0f7a4 rfl rfl (fun c_52 => ?_) (fun c_52 => ?_)
        · refine mi_blk okJ6_numberOfTrailingZeros_0f7a4 2 (pc' := 64) (lv' := [(0, .int (mi_iushr ((x ^^^ (-1)) &&& (x - 1)) 8)), (1, .int (1 + 8))]) (st' := [.int 4, .int (mi_iushr ((x ^^^ (-1)) &&& (x - 1)) 8)]) rfl ?_
          refine mi_ic_le okJ6_numberOfTrailingZeros_0f7a4 rfl rfl (fun c_64 => ?_) (fun c_64 => ?_)
          · refine mi_blk okJ6_numberOfTrailingZeros_0f7a4 5 (pc' := 79) (lv' := [(0, .int (mi_iushr ((x ^^^ (-1)) &&& (x - 1)) 8)), (1, .int (1 + 8))]) (st' := [.int ((1 + 8) + (mi_iushr (mi_iushr ((x ^^^ (-1)) &&& (x - 1)) 8) 1))]) rfl ?_
            exact mi_ret_i okJ6_numberOfTrailingZeros_0f7a4 rfl rfl rfl ⟨by rw [bl_tz, if_pos c_9, tz_1, if_pos c_23, tz_2, if_neg c_38, tz_3, if_pos c_52, tz_4, if_pos c_64, tz_5], rfl⟩
          · refine mi_blk okJ6_numberOfTrailingZeros_0f7a4 10 (pc' := 79) (lv' := [(0, .int (mi_iushr (mi_iushr ((x ^^^ (-1)) &&& (x - 1)) 8) 2)), (1, .int ((1 + 8) + 2))]) (st' := [.int (((1 + 8) + 2) + (mi_iushr (mi_iushr (mi_iushr ((x ^^^ (-1)) &&& (x - 1)) 8) 2) 1))]) rfl ?_
            exact mi_ret_i okJ6_numberOfTrailingZeros_0f7a4 rfl rfl rfl ⟨by rw [bl_tz, if_pos c_9, tz_1, if_pos c_23, tz_2, if_neg c_38, tz_3, if_pos c_52, tz_4, if_neg c_64, tz_5], rfl⟩
        · refine mi_blk okJ6_numberOfTrailingZeros_0f7a4 7 (pc' := 64) (lv' := [(0, .int (mi_iushr (mi_iushr ((x ^^^ (-1)) &&& (x - 1)) 8) 4)), (1, .int ((1 + 8) + 4))]) (st' := [.int 4, .int (mi_iushr (mi_iushr ((x ^^^ (-1)) &&& (x - 1)) 8) 4)]) rfl ?_
          refine mi_ic_le okJ6_numberOfTrailingZeros_0f7a4 rfl rfl (fun c_64 => ?_) (fun c_64 => ?_)
          · refine mi_blk okJ6_numberOfTrailingZeros_0f7a4 5 (pc' := 79) (lv' := [(0, .int (mi_iushr (mi_iushr ((x ^^^ (-1)) &&& (x - 1)) 8) 4)), (1, .int ((1 + 8) + 4))]) (st' := [.int (((1 + 8) + 4) + (mi_iushr (mi_iushr (mi_iushr ((x ^^^ (-1)) &&& (x - 1)) 8) 4) 1))]) rfl ?_
            exact mi_ret_i okJ6_numberOfTrailingZeros_0f7a4 rfl rfl rfl ⟨by rw [bl_tz, if_pos c_9, tz_1, if_pos c_23, tz_2, if_neg c_38, tz_3, if_neg c_52, tz_4, if_pos c_64, tz_5], rfl⟩
          · refine mi_blk okJ6_numberOfTrailingZeros_0f7a4 10 (pc' := 79) (lv' := [(0, .int (mi_iushr (mi_iushr (mi_iushr ((x ^^^ (-1)) &&& (x - 1)) 8) 4) 2)), (1, .int (((1 + 8) + 4) + 2))]) (st' := [.int ((((1 + 8) + 4) + 2) + (mi_iushr (mi_iushr (mi_iushr (mi_iushr ((x ^^^ (-1)) &&& (x - 1)) 8) 4) 2) 1))]) rfl ?_
            exact mi_ret_i okJ6_numberOfTrailingZeros_0f7a4 rfl rfl rfl ⟨by rw [bl_tz, if_pos c_9, tz_1, if_pos c_23, tz_2, if_neg c_38, tz_3, if_neg c_52, tz_4, if_neg c_64, tz_5], rfl⟩
    · refine mi_blk okJ6_numberOfTrailingZeros_0f7a4 7 (pc' := 38) (lv' := [(0, .int (mi_iushr ((x ^^^ (-1)) &&& (x - 1)) 16)), (1, .int (1 + 16))]) (st' := [.int 256, .int (mi_iushr ((x ^^^ (-1)) &&& (x - 1)) 16)]) rfl ?_
      refine mi_ic_le okJ6_numberOfTrailingZeros_0f7a4 rfl rfl (fun c_38 => ?_) (fun c_38 => ?_)
      · refine mi_blk okJ6_numberOfTrailingZeros_0f7a4 2 (pc' := 52) (lv' := [(0, .int (mi_iushr ((x ^^^ (-1)) &&& (x - 1)) 16)), (1, .int (1 + 16))]) (st' := [.int 16, .int (mi_iushr ((x ^^^ (-1)) &&& (x - 1)) 16)]) rfl ?_
        refine mi_ic_le okJ6_numberOfTrailingZeros_0f7a4 rfl rfl (fun c_52 => ?_) (fun c_52 => ?_)
        · refine mi_blk okJ6_numberOfTrailingZeros_0f7a4 2 (pc' := 64) (lv' := [(0, .int (mi_iushr ((x ^^^ (-1)) &&& (x - 1)) 16)), (1, .int (1 + 16))]) (st' := [.int 4, .int (mi_iushr ((x ^^^ (-1)) &&& (x - 1)) 16)]) rfl ?_
          refine mi_ic_le okJ6_numberOfTrailingZeros_0f7a4 rfl rfl (fun c_64 => ?_) (fun c_64 => ?_)
          · refine mi_blk okJ6_numberOfTrailingZeros_0f7a4 5 (pc' := 79) (lv' := [(0, .int (mi_iushr ((x ^^^ (-1)) &&& (x - 1)) 16)), (1, .int (1 + 16))]) (st' := [.int ((1 + 16) + (mi_iushr (mi_iushr ((x ^^^ (-1)) &&& (x - 1)) 16) 1))]) rfl ?_
            exact mi_ret_i okJ6_numberOfTrailingZeros_0f7a4 rfl rfl rfl ⟨by rw [bl_tz, if_pos c_9, tz_1, if_neg c_23, tz_2, if_pos c_38, tz_3, if_pos c_52, tz_4, if_pos c_64, tz_5], rfl⟩
          · refine mi_blk okJ6_numberOfTrailingZeros_0f7a4 10 (pc' := 79) (lv' := [(0, .int (mi_iushr (mi_iushr ((x ^^^ (-1)) &&& (x - 1)) 16) 2)), (1, .int ((1 + 16) + 2))]) (st' := [.int (((1 + 16) + 2) + (mi_iushr (mi_iushr (mi_iushr ((x ^^^ (-1)) &&& (x - 1)) 16) 2) 1))]) rfl ?_
            exact mi_ret_i okJ6_numberOfTrailingZeros_0f7a4 rfl rfl rfl ⟨by rw [bl_tz, if_pos c_9, tz_1, if_neg c_23, tz_2, if_pos c_38, tz_3, if_pos c_52, tz_4, if_neg c_64, tz_5], rfl⟩
        · refine mi_blk okJ6_numberOfTrailingZeros_0f7a4 7 (pc' := 64) (lv' := [(0, .int (mi_iushr (mi_iushr ((x ^^^ (-1)) &&& (x - 1)) 16) 4)), (1, .int ((1 + 16) + 4))]) (st' := [.int 4, .int (mi_iushr (mi_iushr ((x ^^^ (-1)) &&& (x - 1)) 16) 4)]) rfl ?_
          refine mi_ic_le okJ6_numberOfTrailingZeros_0f7a4 rfl rfl (fun c_64 => ?_) (fun c_64 => ?_)
          · refine mi_blk okJ6_numberOfTrailingZeros_0f7a4 5 (pc' := 79) (lv' := [(0, .int (mi_iushr (mi_iushr ((x ^^^ (-1)) &&& (x - 1)) 16) 4)), (1, .int ((1 + 16) + 4))]) (st' := [.int (((1 + 16) + 4) + (mi_iushr (mi_iushr (mi_iushr ((x ^^^ (-1)) &&& (x - 1)) 16) 4) 1))]) rfl ?_
            exact mi_ret_i okJ6_numberOfTrailingZeros_0f7a4 rfl rfl rfl ⟨by rw [bl_tz, if_pos c_9, tz_1, if_neg c_23, tz_2, if_pos c_38, tz_3, if_neg c_52, tz_4, if_pos c_64, tz_5], rfl⟩
          · refine mi_blk okJ6_numberOfTrailingZeros_0f7a4 10 (pc' := 79) (lv' := [(0, .int (mi_iushr (mi_iushr (mi_iushr ((x ^^^ (-1)) &&& (x - 1)) 16) 4) 2)), (1, .int (((1 + 16) + 4) + 2))]) (st' := [.int ((((1 + 16) + 4) + 2) + (mi_iushr (mi_iushr (mi_iushr (mi_iushr ((x ^^^ (-1)) &&& (x - 1)) 16) 4) 2) 1))]) rfl ?_
            exact mi_ret_i okJ6_numberOfTrailingZeros_0f7a4 rfl rfl rfl ⟨by rw [bl_tz, if_pos c_9, tz_1, if_neg c_23, tz_2, if_pos c_38, tz_3, if_neg c_52, tz_4, if_neg c_64, tz_5], rfl⟩
      · refine mi_blk okJ6_numberOfTrailingZeros_0f7a4 7 (pc' := 52) (lv' := [(0, .int (mi_iushr (mi_iushr ((x ^^^ (-1)) &&& (x - 1)) 16) 8)), (1, .int ((1 + 16) + 8))]) (st' := [.int 16, .int (mi_iushr (mi_iushr ((x ^^^ (-1)) &&& (x - 1)) 16) 8)]) rfl ?_
        refine mi_ic_le okJ6_numberOfTrailingZeros_0f7a4 rfl rfl (fun c_52 => ?_) (fun c_52 => ?_)
        · refine mi_blk okJ6_numberOfTrailingZeros_0f7a4 2 (pc' := 64) (lv' := [(0, .int (mi_iushr (mi_iushr ((x ^^^ (-1)) &&& (x - 1)) 16) 8)), (1, .int ((1 + 16) + 8))]) (st' := [.int 4, .int (mi_iushr (mi_iushr ((x ^^^ (-1)) &&& (x - 1)) 16) 8)]) rfl ?_
          refine mi_ic_le okJ6_numberOfTrailingZeros_0f7a4 rfl rfl (fun c_64 => ?_) (fun c_64 => ?_)
          · refine mi_blk okJ6_numberOfTrailingZeros_0f7a4 5 (pc' := 79) (lv' := [(0, .int (mi_iushr (mi_iushr ((x ^^^ (-1)) &&& (x - 1)) 16) 8)), (1, .int ((1 + 16) + 8))]) (st' := [.int (((1 + 16) + 8) + (mi_iushr (mi_iushr (mi_iushr ((x ^^^ (-1)) &&& (x - 1)) 16) 8) 1))]) rfl ?_
            exact mi_ret_i okJ6_numberOfTrailingZeros_0f7a4 rfl rfl rfl ⟨by rw [bl_tz, if_pos c_9, tz_1, if_neg c_23, tz_2, if_neg c_38, tz_3, if_pos c_52, tz_4, if_pos c_64, tz_5], rfl⟩
          · refine mi_blk okJ6_numberOfTrailingZeros_0f7a4 10 (pc' := 79) (lv' := [(0, .int (mi_iushr (mi_iushr (mi_iushr ((x ^^^ (-1)) &&& (x - 1)) 16) 8) 2)), (1, .int (((1 + 16) + 8) + 2))]) (st' := [.int ((((1 + 16) + 8) + 2) + (mi_iushr (mi_iushr (mi_iushr (mi_iushr ((x ^^^ (-1)) &&& (x - 1)) 16) 8) 2) 1))]) rfl ?_
            exact mi_ret_i okJ6_numberOfTrailingZeros_0f7a4 rfl rfl rfl ⟨by rw [bl_tz, if_pos c_9, tz_1, if_neg c_23, tz_2, if_neg c_38, tz_3, if_pos c_52, tz_4, if_neg c_64, tz_5], rfl⟩
        · refine mi_blk okJ6_numberOfTrailingZeros_0f7a4 7 (pc' := 64) (lv' := [(0, .int (mi_iushr (mi_iushr (mi_iushr ((x ^^^ (-1)) &&& (x - 1)) 16) 8) 4)), (1, .int (((1 + 16) + 8) + 4))]) (st' := [.int 4, .int (mi_iushr (mi_iushr (mi_iushr ((x ^^^ (-1)) &&& (x - 1)) 16) 8) 4)]) rfl ?_
          refine mi_ic_le okJ6_numberOfTrailingZeros_0f7a4 rfl rfl (fun c_64 => ?_) (fun c_64 => ?_)
          · refine mi_blk okJ6_numberOfTrailingZeros_0f7a4 5 (pc' := 79) (lv' := [(0, .int (mi_iushr (mi_iushr (mi_iushr ((x ^^^ (-1)) &&& (x - 1)) 16) 8) 4)), (1, .int (((1 + 16) + 8) + 4))]) (st' := [.int ((((1 + 16) + 8) + 4) + (mi_iushr (mi_iushr (mi_iushr (mi_iushr ((x ^^^ (-1)) &&& (x - 1)) 16) 8) 4) 1))]) rfl ?_
            exact mi_ret_i okJ6_numberOfTrailingZeros_0f7a4 rfl rfl rfl ⟨by rw [bl_tz, if_pos c_9, tz_1, if_neg c_23, tz_2, if_neg c_38, tz_3, if_neg c_52, tz_4, if_pos c_64, tz_5], rfl⟩
          · refine mi_blk okJ6_numberOfTrailingZeros_0f7a4 10 (pc' := 79) (lv' := [(0, .int (mi_iushr (mi_iushr (mi_iushr (mi_iushr ((x ^^^ (-1)) &&& (x - 1)) 16) 8) 4) 2)), (1, .int ((((1 + 16) + 8) + 4) + 2))]) (st' := [.int (((((1 + 16) + 8) + 4) + 2) + (mi_iushr (mi_iushr (mi_iushr (mi_iushr (mi_iushr ((x ^^^ (-1)) &&& (x - 1)) 16) 8) 4) 2) 1))]) rfl ?_
            exact mi_ret_i okJ6_numberOfTrailingZeros_0f7a4 rfl rfl rfl ⟨by rw [bl_tz, if_pos c_9, tz_1, if_neg c_23, tz_2, if_neg c_38, tz_3, if_neg c_52, tz_4, if_neg c_64, tz_5], rfl⟩
  · refine mi_blk okJ6_numberOfTrailingZeros_0f7a4 3 (pc' := 16) (lv' := [(0, .int ((x ^^^ (-1)) &&& (x - 1)))]) (st' := [.int (((x ^^^ (-1)) &&& (x - 1)) &&& 32)]) rfl ?_
    exact mi_ret_i okJ6_numberOfTrailingZeros_0f7a4 rfl rfl rfl ⟨by rw [bl_tz, if_neg c_9], rfl⟩
def bl_px (v : Int64) (a s : Int32) : Int32 := (((0 ^^^ bl_at v (a + 0 * s)) ^^^ bl_at v (a + 1 * s)) ^^^ bl_at v (a + 2 * s)) ^^^ bl_at v (a + 3 * s)
def bl_par (v : Int64) (x : Int32) : Int32 := if x < 4 then bl_px v (4 * x) 1 else bl_px v (x - 4) 4
theorem mi_le_nlt {x y : Int32} (h : y ≤ x) : ¬ x < y := by rw [Int32.le_iff_toInt_le] at h; rw [Int32.lt_iff_toInt_lt]; omega
theorem mi_nle_lt {x y : Int32} (h : ¬ y ≤ x) : x < y := by rw [Int32.le_iff_toInt_le] at h; rw [Int32.lt_iff_toInt_lt]; omega
set_option maxHeartbeats 4000000 in
set_option maxRecDepth 100000 in
theorem c_parityOf {X : mi_X} {h : mi_H} {b : Nat} {v : Int64} {e : Int32} (hE : 6 ≤ b) (hb : b < h.1) (hc : h.2 b = bl_c v e) {x : Int32} : mi_S pP X kX1_parityOf 1 [.ref b, .int x] h 0 0 (fun r h1 => r = some (.int (bl_par v x)) ∧ h1 = h) := by
  refine enX1_parityOf (Nat.le_of_ble_eq_true rfl) ?_
  refine mi_blk okX1_parityOf 2 (pc' := 2) (lv' := [(0, .ref b), (1, .int x)]) (st' := [.int 4, .int x]) rfl ?_
  refine mi_ic_ge okX1_parityOf rfl rfl (fun c_2 => ?_) (fun c_2 => ?_)
  · refine mi_blk okX1_parityOf 3 (pc' := 12) (lv' := [(2, .int 0), (0, .ref b), (1, .int x)]) (st' := [.int 0]) rfl ?_
    refine mi_if_eq okX1_parityOf rfl rfl (fun c_12 => ?_) (fun c_12 => absurd (by decide) c_12)
    refine mi_blk okX1_parityOf 5 (pc' := 26) (lv' := [(3, .int (x - 4)), (2, .int 0), (0, .ref b), (1, .int x)]) (st' := [.int 0]) rfl ?_
    refine mi_if_eq okX1_parityOf rfl rfl (fun c_26 => ?_) (fun c_26 => absurd (by decide) c_26)
    refine mi_blk okX1_parityOf 8 (pc' := 45) (lv' := [(6, .int 0), (5, .int 0), (4, .int 4), (3, .int (x - 4)), (2, .int 0), (0, .ref b), (1, .int x)]) (st' := [.int 4, .int 0]) rfl ?_
    refine mi_ic_ge okX1_parityOf rfl rfl (fun c_45 => absurd c_45 (by decide)) (fun c_45 => ?_)
    refine mi_blk okX1_parityOf 7 (pc' := 58) (lv' := [(6, .int 0), (5, .int 0), (4, .int 4), (3, .int (x - 4)), (2, .int 0), (0, .ref b), (1, .int x)]) (st' := [.int ((x - 4) + 0), .ref b, .int 0]) rfl ?_
    refine mi_callV okX1_parityOf (mc := 0) (ms := 0) (mc' := 0) (ms' := 0) (b := b) (As := [.int ((x - 4) + 0)]) (st := [.int 0]) rfl cv_RX1_38 rfl (by decide) hE hb hc rfl (Nat.le_of_ble_eq_true rfl) (c_valueAt (h := h) hE hb hc) (fun r h1 q => ?_)
    obtain ⟨rfl, e9⟩ := q; have e9 := e9.symm; subst e9
    change mi_W pP X kX1_parityOf 1 0 0 61 [(6, .int 0), (5, .int 0), (4, .int 4), (3, .int (x - 4)), (2, .int 0), (0, .ref b), (1, .int x)] [.int (bl_at v ((x - 4) + 0)), .int 0] h _
    refine mi_blk okX1_parityOf 6 (pc' := 45) (lv' := [(6, .int 1), (5, .int (0 ^^^ (bl_at v ((x - 4) + 0)))), (4, .int 4), (3, .int (x - 4)), (2, .int 0), (0, .ref b), (1, .int x)]) (st' := [.int 4, .int 1]) rfl ?_
    refine mi_ic_ge okX1_parityOf rfl rfl (fun c_45 => absurd c_45 (by decide)) (fun c_45 => ?_)
    refine mi_blk okX1_parityOf 7 (pc' := 58) (lv' := [(6, .int 1), (5, .int (0 ^^^ (bl_at v ((x - 4) + 0)))), (4, .int 4), (3, .int (x - 4)), (2, .int 0), (0, .ref b), (1, .int x)]) (st' := [.int ((x - 4) + 4), .ref b, .int (0 ^^^ (bl_at v ((x - 4) + 0)))]) rfl ?_
    refine mi_callV okX1_parityOf (mc := 0) (ms := 0) (mc' := 0) (ms' := 0) (b := b) (As := [.int ((x - 4) + 4)]) (st := [.int (0 ^^^ (bl_at v ((x - 4) + 0)))]) rfl cv_RX1_38 rfl (by decide) hE hb hc rfl (Nat.le_of_ble_eq_true rfl) (c_valueAt (h := h) hE hb hc) (fun r h1 q => ?_)
    obtain ⟨rfl, e9⟩ := q; have e9 := e9.symm; subst e9
    change mi_W pP X kX1_parityOf 1 0 0 61 [(6, .int 1), (5, .int (0 ^^^ (bl_at v ((x - 4) + 0)))), (4, .int 4), (3, .int (x - 4)), (2, .int 0), (0, .ref b), (1, .int x)] [.int (bl_at v ((x - 4) + 4)), .int (0 ^^^ (bl_at v ((x - 4) + 0)))] h _
    refine mi_blk okX1_parityOf 6 (pc' := 45) (lv' := [(6, .int 2), (5, .int ((0 ^^^ (bl_at v ((x - 4) + 0))) ^^^ (bl_at v ((x - 4) + 4)))), (4, .int 4), (3, .int (x - 4)), (2, .int 0), (0, .ref b), (1, .int x)]) (st' := [.int 4, .int 2]) rfl ?_
    refine mi_ic_ge okX1_parityOf rfl rfl (fun c_45 => absurd c_45 (by decide)) (fun c_45 => ?_)
    refine mi_blk okX1_parityOf 7 (pc' := 58) (lv' := [(6, .int 2), (5, .int ((0 ^^^ (bl_at v ((x - 4) + 0))) ^^^ (bl_at v ((x - 4) + 4)))), (4, .int 4), (3, .int (x - 4)), (2, .int 0), (0, .ref b), (1, .int x)]) (st' := [.int ((x - 4) + 8), .ref b, .int ((0 ^^^ (bl_at v ((x - 4) + 0))) ^^^ (bl_at v ((x - 4) + 4)))]) rfl ?_
    refine mi_callV okX1_parityOf (mc := 0) (ms := 0) (mc' := 0) (ms' := 0) (b := b) (As := [.int ((x - 4) + 8)]) (st := [.int ((0 ^^^ (bl_at v ((x - 4) + 0))) ^^^ (bl_at v ((x - 4) + 4)))]) rfl cv_RX1_38 rfl (by decide) hE hb hc rfl (Nat.le_of_ble_eq_true rfl) (c_valueAt (h := h) hE hb hc) (fun r h1 q => ?_)
    obtain ⟨rfl, e9⟩ := q; have e9 := e9.symm; subst e9
    change mi_W pP X kX1_parityOf 1 0 0 61 [(6, .int 2), (5, .int ((0 ^^^ (bl_at v ((x - 4) + 0))) ^^^ (bl_at v ((x - 4) + 4)))), (4, .int 4), (3, .int (x - 4)), (2, .int 0), (0, .ref b), (1, .int x)] [.int (bl_at v ((x - 4) + 8)), .int ((0 ^^^ (bl_at v ((x - 4) + 0))) ^^^ (bl_at v ((x - 4) + 4)))] h _
    refine mi_blk okX1_parityOf 6 (pc' := 45) (lv' := [(6, .int 3), (5, .int (((0 ^^^ (bl_at v ((x - 4) + 0))) ^^^ (bl_at v ((x - 4) + 4))) ^^^ (bl_at v ((x - 4) + 8)))), (4, .int 4), (3, .int (x - 4)), (2, .int 0), (0, .ref b), (1, .int x)]) (st' := [.int 4, .int 3]) rfl ?_
    refine mi_ic_ge okX1_parityOf rfl rfl (fun c_45 => absurd c_45 (by decide)) (fun c_45 => ?_)
    refine mi_blk okX1_parityOf 7 (pc' := 58) (lv' := [(6, .int 3), (5, .int (((0 ^^^ (bl_at v ((x - 4) + 0))) ^^^ (bl_at v ((x - 4) + 4))) ^^^ (bl_at v ((x - 4) + 8)))), (4, .int 4), (3, .int (x - 4)), (2, .int 0), (0, .ref b), (1, .int x)]) (st' := [.int ((x - 4) + 12), .ref b, .int (((0 ^^^ (bl_at v ((x - 4) + 0))) ^^^ (bl_at v ((x - 4) + 4))) ^^^ (bl_at v ((x - 4) + 8)))]) rfl ?_
    refine mi_callV okX1_parityOf (mc := 0) (ms := 0) (mc' := 0) (ms' := 0) (b := b) (As := [.int ((x - 4) + 12)]) (st := [.int (((0 ^^^ (bl_at v ((x - 4) + 0))) ^^^ (bl_at v ((x - 4) + 4))) ^^^ (bl_at v ((x - 4) + 8)))]) rfl cv_RX1_38 rfl (by decide) hE hb hc rfl (Nat.le_of_ble_eq_true rfl) (c_valueAt (h := h) hE hb hc) (fun r h1 q => ?_)
    obtain ⟨rfl, e9⟩ := q; have e9 := e9.symm; subst e9
    change mi_W pP X kX1_parityOf 1 0 0 61 [(6, .int 3), (5, .int (((0 ^^^ (bl_at v ((x - 4) + 0))) ^^^ (bl_at v ((x - 4) + 4))) ^^^ (bl_at v ((x - 4) + 8)))), (4, .int 4), (3, .int (x - 4)), (2, .int 0), (0, .ref b), (1, .int x)] [.int (bl_at v ((x - 4) + 12)), .int (((0 ^^^ (bl_at v ((x - 4) + 0))) ^^^ (bl_at v ((x - 4) + 4))) ^^^ (bl_at v ((x - 4) + 8)))] h _
    refine mi_blk okX1_parityOf 6 (pc' := 45) (lv' := [(6, .int 4), (5, .int ((((0 ^^^ (bl_at v ((x - 4) + 0))) ^^^ (bl_at v ((x - 4) + 4))) ^^^ (bl_at v ((x - 4) + 8))) ^^^ (bl_at v ((x - 4) + 12)))), (4, .int 4), (3, .int (x - 4)), (2, .int 0), (0, .ref b), (1, .int x)]) (st' := [.int 4, .int 4]) rfl ?_
    refine mi_ic_ge okX1_parityOf rfl rfl (fun c_45 => ?_) (fun c_45 => absurd (by decide) c_45)
    refine mi_blk okX1_parityOf 1 (pc' := 72) (lv' := [(6, .int 4), (5, .int ((((0 ^^^ (bl_at v ((x - 4) + 0))) ^^^ (bl_at v ((x - 4) + 4))) ^^^ (bl_at v ((x - 4) + 8))) ^^^ (bl_at v ((x - 4) + 12)))), (4, .int 4), (3, .int (x - 4)), (2, .int 0), (0, .ref b), (1, .int x)]) (st' := [.int ((((0 ^^^ (bl_at v ((x - 4) + 0))) ^^^ (bl_at v ((x - 4) + 4))) ^^^ (bl_at v ((x - 4) + 8))) ^^^ (bl_at v ((x - 4) + 12)))]) rfl ?_
    exact mi_ret_i okX1_parityOf rfl rfl rfl ⟨by unfold bl_par; rw [if_neg (mi_le_nlt c_2)]; rfl, rfl⟩
  · refine mi_blk okX1_parityOf 4 (pc' := 12) (lv' := [(2, .int 1), (0, .ref b), (1, .int x)]) (st' := [.int 1]) rfl ?_
    refine mi_if_eq okX1_parityOf rfl rfl (fun c_12 => absurd c_12 (by decide)) (fun c_12 => ?_)
    refine mi_blk okX1_parityOf 6 (pc' := 26) (lv' := [(3, .int (4 * x)), (2, .int 1), (0, .ref b), (1, .int x)]) (st' := [.int 1]) rfl ?_
    refine mi_if_eq okX1_parityOf rfl rfl (fun c_26 => absurd c_26 (by decide)) (fun c_26 => ?_)
    refine mi_blk okX1_parityOf 9 (pc' := 45) (lv' := [(6, .int 0), (5, .int 0), (4, .int 1), (3, .int (4 * x)), (2, .int 1), (0, .ref b), (1, .int x)]) (st' := [.int 4, .int 0]) rfl ?_
    refine mi_ic_ge okX1_parityOf rfl rfl (fun c_45 => absurd c_45 (by decide)) (fun c_45 => ?_)
    refine mi_blk okX1_parityOf 7 (pc' := 58) (lv' := [(6, .int 0), (5, .int 0), (4, .int 1), (3, .int (4 * x)), (2, .int 1), (0, .ref b), (1, .int x)]) (st' := [.int ((4 * x) + 0), .ref b, .int 0]) rfl ?_
    refine mi_callV okX1_parityOf (mc := 0) (ms := 0) (mc' := 0) (ms' := 0) (b := b) (As := [.int ((4 * x) + 0)]) (st := [.int 0]) rfl cv_RX1_38 rfl (by decide) hE hb hc rfl (Nat.le_of_ble_eq_true rfl) (c_valueAt (h := h) hE hb hc) (fun r h1 q => ?_)
    obtain ⟨rfl, e9⟩ := q; have e9 := e9.symm; subst e9
    change mi_W pP X kX1_parityOf 1 0 0 61 [(6, .int 0), (5, .int 0), (4, .int 1), (3, .int (4 * x)), (2, .int 1), (0, .ref b), (1, .int x)] [.int (bl_at v ((4 * x) + 0)), .int 0] h _
    refine mi_blk okX1_parityOf 6 (pc' := 45) (lv' := [(6, .int 1), (5, .int (0 ^^^ (bl_at v ((4 * x) + 0)))), (4, .int 1), (3, .int (4 * x)), (2, .int 1), (0, .ref b), (1, .int x)]) (st' := [.int 4, .int 1]) rfl ?_
    refine mi_ic_ge okX1_parityOf rfl rfl (fun c_45 => absurd c_45 (by decide)) (fun c_45 => ?_)
    refine mi_blk okX1_parityOf 7 (pc' := 58) (lv' := [(6, .int 1), (5, .int (0 ^^^ (bl_at v ((4 * x) + 0)))), (4, .int 1), (3, .int (4 * x)), (2, .int 1), (0, .ref b), (1, .int x)]) (st' := [.int ((4 * x) + 1), .ref b, .int (0 ^^^ (bl_at v ((4 * x) + 0)))]) rfl ?_
    refine mi_callV okX1_parityOf (mc := 0) (ms := 0) (mc' := 0) (ms' := 0) (b := b) (As := [.int ((4 * x) + 1)]) (st := [.int (0 ^^^ (bl_at v ((4 * x) + 0)))]) rfl cv_RX1_38 rfl (by decide) hE hb hc rfl (Nat.le_of_ble_eq_true rfl) (c_valueAt (h := h) hE hb hc) (fun r h1 q => ?_)
    obtain ⟨rfl, e9⟩ := q; have e9 := e9.symm; subst e9
    change mi_W pP X kX1_parityOf 1 0 0 61 [(6, .int 1), (5, .int (0 ^^^ (bl_at v ((4 * x) + 0)))), (4, .int 1), (3, .int (4 * x)), (2, .int 1), (0, .ref b), (1, .int x)] [.int (bl_at v ((4 * x) + 1)), .int (0 ^^^ (bl_at v ((4 * x) + 0)))] h _
    refine mi_blk okX1_parityOf 6 (pc' := 45) (lv' := [(6, .int 2), (5, .int ((0 ^^^ (bl_at v ((4 * x) + 0))) ^^^ (bl_at v ((4 * x) + 1)))), (4, .int 1), (3, .int (4 * x)), (2, .int 1), (0, .ref b), (1, .int x)]) (st' := [.int 4, .int 2]) rfl ?_
    refine mi_ic_ge okX1_parityOf rfl rfl (fun c_45 => absurd c_45 (by decide)) (fun c_45 => ?_)
    refine mi_blk okX1_parityOf 7 (pc' := 58) (lv' := [(6, .int 2), (5, .int ((0 ^^^ (bl_at v ((4 * x) + 0))) ^^^ (bl_at v ((4 * x) + 1)))), (4, .int 1), (3, .int (4 * x)), (2, .int 1), (0, .ref b), (1, .int x)]) (st' := [.int ((4 * x) + 2), .ref b, .int ((0 ^^^ (bl_at v ((4 * x) + 0))) ^^^ (bl_at v ((4 * x) + 1)))]) rfl ?_
    refine mi_callV okX1_parityOf (mc := 0) (ms := 0) (mc' := 0) (ms' := 0) (b := b) (As := [.int ((4 * x) + 2)]) (st := [.int ((0 ^^^ (bl_at v ((4 * x) + 0))) ^^^ (bl_at v ((4 * x) + 1)))]) rfl cv_RX1_38 rfl (by decide) hE hb hc rfl (Nat.le_of_ble_eq_true rfl) (c_valueAt (h := h) hE hb hc) (fun r h1 q => ?_)
    obtain ⟨rfl, e9⟩ := q; have e9 := e9.symm; subst e9
    change mi_W pP X kX1_parityOf 1 0 0 61 [(6, .int 2), (5, .int ((0 ^^^ (bl_at v ((4 * x) + 0))) ^^^ (bl_at v ((4 * x) + 1)))), (4, .int 1), (3, .int (4 * x)), (2, .int 1), (0, .ref b), (1, .int x)] [.int (bl_at v ((4 * x) + 2)), .int ((0 ^^^ (bl_at v ((4 * x) + 0))) ^^^ (bl_at v ((4 * x) + 1)))] h _
    refine mi_blk okX1_parityOf 6 (pc' := 45) (lv' := [(6, .int 3), (5, .int (((0 ^^^ (bl_at v ((4 * x) + 0))) ^^^ (bl_at v ((4 * x) + 1))) ^^^ (bl_at v ((4 * x) + 2)))), (4, .int 1), (3, .int (4 * x)), (2, .int 1), (0, .ref b), (1, .int x)]) (st' := [.int 4, .int 3]) rfl ?_
    refine mi_ic_ge okX1_parityOf rfl rfl (fun c_45 => absurd c_45 (by decide)) (fun c_45 => ?_)
    refine mi_blk okX1_parityOf 7 (pc' := 58) (lv' := [(6, .int 3), (5, .int (((0 ^^^ (bl_at v ((4 * x) + 0))) ^^^ (bl_at v ((4 * x) + 1))) ^^^ (bl_at v ((4 * x) + 2)))), (4, .int 1), (3, .int (4 * x)), (2, .int 1), (0, .ref b), (1, .int x)]) (st' := [.int ((4 * x) + 3), .ref b, .int (((0 ^^^ (bl_at v ((4 * x) + 0))) ^^^ (bl_at v ((4 * x) + 1))) ^^^ (bl_at v ((4 * x) + 2)))]) rfl ?_
    refine mi_callV okX1_parityOf (mc := 0) (ms := 0) (mc' := 0) (ms' := 0) (b := b) (As := [.int ((4 * x) + 3)]) (st := [.int (((0 ^^^ (bl_at v ((4 * x) + 0))) ^^^ (bl_at v ((4 * x) + 1))) ^^^ (bl_at v ((4 * x) + 2)))]) rfl cv_RX1_38 rfl (by decide) hE hb hc rfl (Nat.le_of_ble_eq_true rfl) (c_valueAt (h := h) hE hb hc) (fun r h1 q => ?_)
    obtain ⟨rfl, e9⟩ := q; have e9 := e9.symm; subst e9
    change mi_W pP X kX1_parityOf 1 0 0 61 [(6, .int 3), (5, .int (((0 ^^^ (bl_at v ((4 * x) + 0))) ^^^ (bl_at v ((4 * x) + 1))) ^^^ (bl_at v ((4 * x) + 2)))), (4, .int 1), (3, .int (4 * x)), (2, .int 1), (0, .ref b), (1, .int x)] [.int (bl_at v ((4 * x) + 3)), .int (((0 ^^^ (bl_at v ((4 * x) + 0))) ^^^ (bl_at v ((4 * x) + 1))) ^^^ (bl_at v ((4 * x) + 2)))] h _
    refine mi_blk okX1_parityOf 6 (pc' := 45) (lv' := [(6, .int 4), (5, .int ((((0 ^^^ (bl_at v ((4 * x) + 0))) ^^^ (bl_at v ((4 * x) + 1))) ^^^ (bl_at v ((4 * x) + 2))) ^^^ (bl_at v ((4 * x) + 3)))), (4, .int 1), (3, .int (4 * x)), (2, .int 1), (0, .ref b), (1, .int x)]) (st' := [.int 4, .int 4]) rfl ?_
    refine mi_ic_ge okX1_parityOf rfl rfl (fun c_45 => ?_) (fun c_45 => absurd (by decide) c_45)
    refine mi_blk okX1_parityOf 1 (pc' := 72) (lv' := [(6, .int 4), (5, .int ((((0 ^^^ (bl_at v ((4 * x) + 0))) ^^^ (bl_at v ((4 * x) + 1))) ^^^ (bl_at v ((4 * x) + 2))) ^^^ (bl_at v ((4 * x) + 3)))), (4, .int 1), (3, .int (4 * x)), (2, .int 1), (0, .ref b), (1, .int x)]) (st' := [.int ((((0 ^^^ (bl_at v ((4 * x) + 0))) ^^^ (bl_at v ((4 * x) + 1))) ^^^ (bl_at v ((4 * x) + 2))) ^^^ (bl_at v ((4 * x) + 3)))]) rfl ?_
    exact mi_ret_i okX1_parityOf rfl rfl rfl ⟨by unfold bl_par; rw [if_pos (mi_nle_lt c_2)]; rfl, rfl⟩
def bl_even (v : Int64) : Int32 := if bl_par v 0 = 0 ∧ bl_par v 1 = 0 ∧ bl_par v 2 = 0 ∧ bl_par v 3 = 0 ∧ bl_par v 4 = 0 ∧ bl_par v 5 = 0 ∧ bl_par v 6 = 0 ∧ bl_par v 7 = 0 then 1 else 0
set_option maxHeartbeats 4000000 in
set_option maxRecDepth 100000 in
theorem c_isEven {X : mi_X} {h : mi_H} {b : Nat} {v : Int64} {e : Int32} (hE : 6 ≤ b) (hb : b < h.1) (hc : h.2 b = bl_c v e) : mi_S pP X kX1_isEven 2 [.ref b] h 0 0 (fun r h1 => r = some (.int (bl_even v)) ∧ h1 = h) := by
  refine enX1_isEven (Nat.le_of_ble_eq_true rfl) ?_
  refine mi_blk okX1_isEven 4 (pc' := 5) (lv' := [(1, .int 0), (0, .ref b)]) (st' := [.int 8, .int 0]) rfl ?_
  refine mi_ic_ge okX1_isEven rfl rfl (fun c_5 => absurd c_5 (by decide)) (fun c_5 => ?_)
  refine mi_blk okX1_isEven 2 (pc' := 10) (lv' := [(1, .int 0), (0, .ref b)]) (st' := [.int 0, .ref b]) rfl ?_
  refine mi_callV okX1_isEven (mc := 0) (ms := 0) (mc' := 0) (ms' := 0) (b := b) (As := [.int 0]) (st := []) rfl cv_RX1_35 rfl (by decide) hE hb hc rfl (Nat.le_of_ble_eq_true rfl) (c_parityOf (h := h) hE hb hc) (fun r h1 q => ?_)
  obtain ⟨rfl, e9⟩ := q; have e9 := e9.symm; subst e9
  change mi_W pP X kX1_isEven 2 0 0 13 [(1, .int 0), (0, .ref b)] [.int (bl_par v 0)] h _
  refine mi_if_eq okX1_isEven rfl rfl (fun c_13 => ?_) (fun c_13 => ?_)
  · refine mi_blk okX1_isEven 4 (pc' := 5) (lv' := [(1, .int 1), (0, .ref b)]) (st' := [.int 8, .int 1]) rfl ?_
    refine mi_ic_ge okX1_isEven rfl rfl (fun c_5 => absurd c_5 (by decide)) (fun c_5 => ?_)
    refine mi_blk okX1_isEven 2 (pc' := 10) (lv' := [(1, .int 1), (0, .ref b)]) (st' := [.int 1, .ref b]) rfl ?_
    refine mi_callV okX1_isEven (mc := 0) (ms := 0) (mc' := 0) (ms' := 0) (b := b) (As := [.int 1]) (st := []) rfl cv_RX1_35 rfl (by decide) hE hb hc rfl (Nat.le_of_ble_eq_true rfl) (c_parityOf (h := h) hE hb hc) (fun r h1 q => ?_)
    obtain ⟨rfl, e9⟩ := q; have e9 := e9.symm; subst e9
    change mi_W pP X kX1_isEven 2 0 0 13 [(1, .int 1), (0, .ref b)] [.int (bl_par v 1)] h _
    refine mi_if_eq okX1_isEven rfl rfl (fun c_13_1 => ?_) (fun c_13_1 => ?_)
    · refine mi_blk okX1_isEven 4 (pc' := 5) (lv' := [(1, .int 2), (0, .ref b)]) (st' := [.int 8, .int 2]) rfl ?_
      refine mi_ic_ge okX1_isEven rfl rfl (fun c_5 => absurd c_5 (by decide)) (fun c_5 => ?_)
      refine mi_blk okX1_isEven 2 (pc' := 10) (lv' := [(1, .int 2), (0, .ref b)]) (st' := [.int 2, .ref b]) rfl ?_
      refine mi_callV okX1_isEven (mc := 0) (ms := 0) (mc' := 0) (ms' := 0) (b := b) (As := [.int 2]) (st := []) rfl cv_RX1_35 rfl (by decide) hE hb hc rfl (Nat.le_of_ble_eq_true rfl) (c_parityOf (h := h) hE hb hc) (fun r h1 q => ?_)
      obtain ⟨rfl, e9⟩ := q; have e9 := e9.symm; subst e9
      change mi_W pP X kX1_isEven 2 0 0 13 [(1, .int 2), (0, .ref b)] [.int (bl_par v 2)] h _
      refine mi_if_eq okX1_isEven rfl rfl (fun c_13_2 => ?_) (fun c_13_2 => ?_)
      · refine mi_blk okX1_isEven 4 (pc' := 5) (lv' := [(1, .int 3), (0, .ref b)]) (st' := [.int 8, .int 3]) rfl ?_
        refine mi_ic_ge okX1_isEven rfl rfl (fun c_5 => absurd c_5 (by decide)) (fun c_5 => ?_)
        refine mi_blk okX1_isEven 2 (pc' := 10) (lv' := [(1, .int 3), (0, .ref b)]) (st' := [.int 3, .ref b]) rfl ?_
        refine mi_callV okX1_isEven (mc := 0) (ms := 0) (mc' := 0) (ms' := 0) (b := b) (As := [.int 3]) (st := []) rfl cv_RX1_35 rfl (by decide) hE hb hc rfl (Nat.le_of_ble_eq_true rfl) (c_parityOf (h := h) hE hb hc) (fun r h1 q => ?_)
        obtain ⟨rfl, e9⟩ := q; have e9 := e9.symm; subst e9
        change mi_W pP X kX1_isEven 2 0 0 13 [(1, .int 3), (0, .ref b)] [.int (bl_par v 3)] h _
        refine mi_if_eq okX1_isEven rfl rfl (fun c_13_3 => ?_) (fun c_13_3 => ?_)
        · refine mi_blk okX1_isEven 4 (pc' := 5) (lv' := [(1, .int 4), (0, .ref b)]) (st' := [.int 8, .int 4]) rfl ?_
          refine mi_ic_ge okX1_isEven rfl rfl (fun c_5 => absurd c_5 (by decide)) (fun c_5 => ?_)
          refine mi_blk okX1_isEven 2 (pc' := 10) (lv' := [(1, .int 4), (0, .ref b)]) (st' := [.int 4, .ref b]) rfl ?_
          refine mi_callV okX1_isEven (mc := 0) (ms := 0) (mc' := 0) (ms' := 0) (b := b) (As := [.int 4]) (st := []) rfl cv_RX1_35 rfl (by decide) hE hb hc rfl (Nat.le_of_ble_eq_true rfl) (c_parityOf (h := h) hE hb hc) (fun r h1 q => ?_)
          obtain ⟨rfl, e9⟩ := q; have e9 := e9.symm; subst e9
          change mi_W pP X kX1_isEven 2 0 0 13 [(1, .int 4), (0, .ref b)] [.int (bl_par v 4)] h _
          refine mi_if_eq okX1_isEven rfl rfl (fun c_13_4 => ?_) (fun c_13_4 => ?_)
          · refine mi_blk okX1_isEven 4 (pc' := 5) (lv' := [(1, .int 5), (0, .ref b)]) (st' := [.int 8, .int 5]) rfl ?_
            refine mi_ic_ge okX1_isEven rfl rfl (fun c_5 => absurd c_5 (by decide)) (fun c_5 => ?_)
            refine mi_blk okX1_isEven 2 (pc' := 10) (lv' := [(1, .int 5), (0, .ref b)]) (st' := [.int 5, .ref b]) rfl ?_
            refine mi_callV okX1_isEven (mc := 0) (ms := 0) (mc' := 0) (ms' := 0) (b := b) (As := [.int 5]) (st := []) rfl cv_RX1_35 rfl (by decide) hE hb hc rfl (Nat.le_of_ble_eq_true rfl) (c_parityOf (h := h) hE hb hc) (fun r h1 q => ?_)
            obtain ⟨rfl, e9⟩ := q; have e9 := e9.symm; subst e9
            change mi_W pP X kX1_isEven 2 0 0 13 [(1, .int 5), (0, .ref b)] [.int (bl_par v 5)] h _
            refine mi_if_eq okX1_isEven rfl rfl (fun c_13_5 => ?_) (fun c_13_5 => ?_)
            · refine mi_blk okX1_isEven 4 (pc' := 5) (lv' := [(1, .int 6), (0, .ref b)]) (st' := [.int 8, .int 6]) rfl ?_
              refine mi_ic_ge okX1_isEven rfl rfl (fun c_5 => absurd c_5 (by decide)) (fun c_5 => ?_)
              refine mi_blk okX1_isEven 2 (pc' := 10) (lv' := [(1, .int 6), (0, .ref b)]) (st' := [.int 6, .ref b]) rfl ?_
              refine mi_callV okX1_isEven (mc := 0) (ms := 0) (mc' := 0) (ms' := 0) (b := b) (As := [.int 6]) (st := []) rfl cv_RX1_35 rfl (by decide) hE hb hc rfl (Nat.le_of_ble_eq_true rfl) (c_parityOf (h := h) hE hb hc) (fun r h1 q => ?_)
              obtain ⟨rfl, e9⟩ := q; have e9 := e9.symm; subst e9
              change mi_W pP X kX1_isEven 2 0 0 13 [(1, .int 6), (0, .ref b)] [.int (bl_par v 6)] h _
              refine mi_if_eq okX1_isEven rfl rfl (fun c_13_6 => ?_) (fun c_13_6 => ?_)
              · refine mi_blk okX1_isEven 4 (pc' := 5) (lv' := [(1, .int 7), (0, .ref b)]) (st' := [.int 8, .int 7]) rfl ?_
                refine mi_ic_ge okX1_isEven rfl rfl (fun c_5 => absurd c_5 (by decide)) (fun c_5 => ?_)
                refine mi_blk okX1_isEven 2 (pc' := 10) (lv' := [(1, .int 7), (0, .ref b)]) (st' := [.int 7, .ref b]) rfl ?_
                refine mi_callV okX1_isEven (mc := 0) (ms := 0) (mc' := 0) (ms' := 0) (b := b) (As := [.int 7]) (st := []) rfl cv_RX1_35 rfl (by decide) hE hb hc rfl (Nat.le_of_ble_eq_true rfl) (c_parityOf (h := h) hE hb hc) (fun r h1 q => ?_)
                obtain ⟨rfl, e9⟩ := q; have e9 := e9.symm; subst e9
                change mi_W pP X kX1_isEven 2 0 0 13 [(1, .int 7), (0, .ref b)] [.int (bl_par v 7)] h _
                refine mi_if_eq okX1_isEven rfl rfl (fun c_13_7 => ?_) (fun c_13_7 => ?_)
                · refine mi_blk okX1_isEven 4 (pc' := 5) (lv' := [(1, .int 8), (0, .ref b)]) (st' := [.int 8, .int 8]) rfl ?_
                  refine mi_ic_ge okX1_isEven rfl rfl (fun c_5 => ?_) (fun c_5 => absurd (by decide) c_5)
                  refine mi_blk okX1_isEven 1 (pc' := 25) (lv' := [(1, .int 8), (0, .ref b)]) (st' := [.int 1]) rfl ?_
                  exact mi_ret_i okX1_isEven rfl rfl rfl ⟨by unfold bl_even; rw [if_pos ⟨c_13, c_13_1, c_13_2, c_13_3, c_13_4, c_13_5, c_13_6, c_13_7⟩], rfl⟩
                · refine mi_blk okX1_isEven 1 (pc' := 17) (lv' := [(1, .int 7), (0, .ref b)]) (st' := [.int 0]) rfl ?_
                  exact mi_ret_i okX1_isEven rfl rfl rfl ⟨by unfold bl_even; rw [if_neg (fun q => c_13_7 q.2.2.2.2.2.2.2)], rfl⟩
              · refine mi_blk okX1_isEven 1 (pc' := 17) (lv' := [(1, .int 6), (0, .ref b)]) (st' := [.int 0]) rfl ?_
                exact mi_ret_i okX1_isEven rfl rfl rfl ⟨by unfold bl_even; rw [if_neg (fun q => c_13_6 q.2.2.2.2.2.2.1)], rfl⟩
            · refine mi_blk okX1_isEven 1 (pc' := 17) (lv' := [(1, .int 5), (0, .ref b)]) (st' := [.int 0]) rfl ?_
              exact mi_ret_i okX1_isEven rfl rfl rfl ⟨by unfold bl_even; rw [if_neg (fun q => c_13_5 q.2.2.2.2.2.1)], rfl⟩
          · refine mi_blk okX1_isEven 1 (pc' := 17) (lv' := [(1, .int 4), (0, .ref b)]) (st' := [.int 0]) rfl ?_
            exact mi_ret_i okX1_isEven rfl rfl rfl ⟨by unfold bl_even; rw [if_neg (fun q => c_13_4 q.2.2.2.2.1)], rfl⟩
        · refine mi_blk okX1_isEven 1 (pc' := 17) (lv' := [(1, .int 3), (0, .ref b)]) (st' := [.int 0]) rfl ?_
          exact mi_ret_i okX1_isEven rfl rfl rfl ⟨by unfold bl_even; rw [if_neg (fun q => c_13_3 q.2.2.2.1)], rfl⟩
      · refine mi_blk okX1_isEven 1 (pc' := 17) (lv' := [(1, .int 2), (0, .ref b)]) (st' := [.int 0]) rfl ?_
        exact mi_ret_i okX1_isEven rfl rfl rfl ⟨by unfold bl_even; rw [if_neg (fun q => c_13_2 q.2.2.1)], rfl⟩
    · refine mi_blk okX1_isEven 1 (pc' := 17) (lv' := [(1, .int 1), (0, .ref b)]) (st' := [.int 0]) rfl ?_
      exact mi_ret_i okX1_isEven rfl rfl rfl ⟨by unfold bl_even; rw [if_neg (fun q => c_13_1 q.2.1)], rfl⟩
  · refine mi_blk okX1_isEven 1 (pc' := 17) (lv' := [(1, .int 0), (0, .ref b)]) (st' := [.int 0]) rfl ?_
    exact mi_ret_i okX1_isEven rfl rfl rfl ⟨by unfold bl_even; rw [if_neg (fun q => c_13 q.1)], rfl⟩
def bl_ods (v : Int64) : List Int32 → Int32 → Int32
  | [], f => f
  | l :: r, f => if bl_par v l = 0 then bl_ods v r f else if f = -1 then bl_ods v r l else -1
set_option maxHeartbeats 4000000 in
set_option maxRecDepth 100000 in
theorem c_onlyOddOf_0 {X : mi_X} {h : mi_H} {b : Nat} {v : Int64} {e : Int32} (hE : 6 ≤ b) (hb : b < h.1) (hc : h.2 b = bl_c v e) : mi_S pP X kX1_onlyOddOf 2 [.ref b, .int 0] h 0 0 (fun r h1 => r = some (.int (bl_ods v [0, 1, 2, 3] (-1))) ∧ h1 = h) := by
  refine enX1_onlyOddOf (Nat.le_of_ble_eq_true rfl) ?_
  refine mi_blk okX1_onlyOddOf 8 (pc' := 8) (lv' := [(3, .int 0), (2, .int (-1)), (0, .ref b), (1, .int 0)]) (st' := [.int 4, .int 0]) rfl ?_
  refine mi_ic_ge okX1_onlyOddOf rfl rfl (fun c_8 => absurd c_8 (by decide)) (fun c_8 => ?_)
  refine mi_blk okX1_onlyOddOf 2 (pc' := 13) (lv' := [(3, .int 0), (2, .int (-1)), (0, .ref b), (1, .int 0)]) (st' := [.int 0, .ref b]) rfl ?_
  refine mi_callV okX1_onlyOddOf (mc := 0) (ms := 0) (mc' := 0) (ms' := 0) (b := b) (As := [.int 0]) (st := []) rfl cv_RX1_35 rfl (by decide) hE hb hc rfl (Nat.le_of_ble_eq_true rfl) (c_parityOf (h := h) hE hb hc) (fun r h1 q => ?_)
  obtain ⟨rfl, e9⟩ := q; have e9 := e9.symm; subst e9
  change mi_W pP X kX1_onlyOddOf 2 0 0 16 [(3, .int 0), (2, .int (-1)), (0, .ref b), (1, .int 0)] [.int (bl_par v 0)] h _
  refine mi_if_eq okX1_onlyOddOf rfl rfl (fun c_16 => ?_) (fun c_16 => ?_)
  · refine mi_blk okX1_onlyOddOf 6 (pc' := 8) (lv' := [(3, .int 1), (2, .int (-1)), (0, .ref b), (1, .int 0)]) (st' := [.int 4, .int 1]) rfl ?_
    refine mi_ic_ge okX1_onlyOddOf rfl rfl (fun c_8 => absurd c_8 (by decide)) (fun c_8 => ?_)
    refine mi_blk okX1_onlyOddOf 2 (pc' := 13) (lv' := [(3, .int 1), (2, .int (-1)), (0, .ref b), (1, .int 0)]) (st' := [.int 1, .ref b]) rfl ?_
    refine mi_callV okX1_onlyOddOf (mc := 0) (ms := 0) (mc' := 0) (ms' := 0) (b := b) (As := [.int 1]) (st := []) rfl cv_RX1_35 rfl (by decide) hE hb hc rfl (Nat.le_of_ble_eq_true rfl) (c_parityOf (h := h) hE hb hc) (fun r h1 q => ?_)
    obtain ⟨rfl, e9⟩ := q; have e9 := e9.symm; subst e9
    change mi_W pP X kX1_onlyOddOf 2 0 0 16 [(3, .int 1), (2, .int (-1)), (0, .ref b), (1, .int 0)] [.int (bl_par v 1)] h _
    refine mi_if_eq okX1_onlyOddOf rfl rfl (fun c_16_1 => ?_) (fun c_16_1 => ?_)
    · refine mi_blk okX1_onlyOddOf 6 (pc' := 8) (lv' := [(3, .int 2), (2, .int (-1)), (0, .ref b), (1, .int 0)]) (st' := [.int 4, .int 2]) rfl ?_
      refine mi_ic_ge okX1_onlyOddOf rfl rfl (fun c_8 => absurd c_8 (by decide)) (fun c_8 => ?_)
      refine mi_blk okX1_onlyOddOf 2 (pc' := 13) (lv' := [(3, .int 2), (2, .int (-1)), (0, .ref b), (1, .int 0)]) (st' := [.int 2, .ref b]) rfl ?_
      refine mi_callV okX1_onlyOddOf (mc := 0) (ms := 0) (mc' := 0) (ms' := 0) (b := b) (As := [.int 2]) (st := []) rfl cv_RX1_35 rfl (by decide) hE hb hc rfl (Nat.le_of_ble_eq_true rfl) (c_parityOf (h := h) hE hb hc) (fun r h1 q => ?_)
      obtain ⟨rfl, e9⟩ := q; have e9 := e9.symm; subst e9
      change mi_W pP X kX1_onlyOddOf 2 0 0 16 [(3, .int 2), (2, .int (-1)), (0, .ref b), (1, .int 0)] [.int (bl_par v 2)] h _
      refine mi_if_eq okX1_onlyOddOf rfl rfl (fun c_16_2 => ?_) (fun c_16_2 => ?_)
      · refine mi_blk okX1_onlyOddOf 6 (pc' := 8) (lv' := [(3, .int 3), (2, .int (-1)), (0, .ref b), (1, .int 0)]) (st' := [.int 4, .int 3]) rfl ?_
        refine mi_ic_ge okX1_onlyOddOf rfl rfl (fun c_8 => absurd c_8 (by decide)) (fun c_8 => ?_)
        refine mi_blk okX1_onlyOddOf 2 (pc' := 13) (lv' := [(3, .int 3), (2, .int (-1)), (0, .ref b), (1, .int 0)]) (st' := [.int 3, .ref b]) rfl ?_
        refine mi_callV okX1_onlyOddOf (mc := 0) (ms := 0) (mc' := 0) (ms' := 0) (b := b) (As := [.int 3]) (st := []) rfl cv_RX1_35 rfl (by decide) hE hb hc rfl (Nat.le_of_ble_eq_true rfl) (c_parityOf (h := h) hE hb hc) (fun r h1 q => ?_)
        obtain ⟨rfl, e9⟩ := q; have e9 := e9.symm; subst e9
        change mi_W pP X kX1_onlyOddOf 2 0 0 16 [(3, .int 3), (2, .int (-1)), (0, .ref b), (1, .int 0)] [.int (bl_par v 3)] h _
        refine mi_if_eq okX1_onlyOddOf rfl rfl (fun c_16_3 => ?_) (fun c_16_3 => ?_)
        · refine mi_blk okX1_onlyOddOf 6 (pc' := 8) (lv' := [(3, .int 4), (2, .int (-1)), (0, .ref b), (1, .int 0)]) (st' := [.int 4, .int 4]) rfl ?_
          refine mi_ic_ge okX1_onlyOddOf rfl rfl (fun c_8 => ?_) (fun c_8 => absurd (by decide) c_8)
          refine mi_blk okX1_onlyOddOf 1 (pc' := 35) (lv' := [(3, .int 4), (2, .int (-1)), (0, .ref b), (1, .int 0)]) (st' := [.int (-1)]) rfl ?_
          exact mi_ret_i okX1_onlyOddOf rfl rfl rfl ⟨by rw [bl_ods, if_pos c_16, bl_ods, if_pos c_16_1, bl_ods, if_pos c_16_2, bl_ods, if_pos c_16_3, bl_ods], rfl⟩
        · refine mi_blk okX1_onlyOddOf 2 (pc' := 21) (lv' := [(3, .int 3), (2, .int (-1)), (0, .ref b), (1, .int 0)]) (st' := [.int (-1), .int (-1)]) rfl ?_
          refine mi_ic_eq okX1_onlyOddOf rfl rfl (fun c_21 => ?_) (fun c_21 => absurd (by decide) c_21)
          refine mi_blk okX1_onlyOddOf 8 (pc' := 8) (lv' := [(3, .int 4), (2, .int 3), (0, .ref b), (1, .int 0)]) (st' := [.int 4, .int 4]) rfl ?_
          refine mi_ic_ge okX1_onlyOddOf rfl rfl (fun c_8 => ?_) (fun c_8 => absurd (by decide) c_8)
          refine mi_blk okX1_onlyOddOf 1 (pc' := 35) (lv' := [(3, .int 4), (2, .int 3), (0, .ref b), (1, .int 0)]) (st' := [.int 3]) rfl ?_
          exact mi_ret_i okX1_onlyOddOf rfl rfl rfl ⟨by rw [bl_ods, if_pos c_16, bl_ods, if_pos c_16_1, bl_ods, if_pos c_16_2, bl_ods, if_neg c_16_3, if_pos rfl, bl_ods], rfl⟩
      · refine mi_blk okX1_onlyOddOf 2 (pc' := 21) (lv' := [(3, .int 2), (2, .int (-1)), (0, .ref b), (1, .int 0)]) (st' := [.int (-1), .int (-1)]) rfl ?_
        refine mi_ic_eq okX1_onlyOddOf rfl rfl (fun c_21 => ?_) (fun c_21 => absurd (by decide) c_21)
        refine mi_blk okX1_onlyOddOf 8 (pc' := 8) (lv' := [(3, .int 3), (2, .int 2), (0, .ref b), (1, .int 0)]) (st' := [.int 4, .int 3]) rfl ?_
        refine mi_ic_ge okX1_onlyOddOf rfl rfl (fun c_8 => absurd c_8 (by decide)) (fun c_8 => ?_)
        refine mi_blk okX1_onlyOddOf 2 (pc' := 13) (lv' := [(3, .int 3), (2, .int 2), (0, .ref b), (1, .int 0)]) (st' := [.int 3, .ref b]) rfl ?_
        refine mi_callV okX1_onlyOddOf (mc := 0) (ms := 0) (mc' := 0) (ms' := 0) (b := b) (As := [.int 3]) (st := []) rfl cv_RX1_35 rfl (by decide) hE hb hc rfl (Nat.le_of_ble_eq_true rfl) (c_parityOf (h := h) hE hb hc) (fun r h1 q => ?_)
        obtain ⟨rfl, e9⟩ := q; have e9 := e9.symm; subst e9
        change mi_W pP X kX1_onlyOddOf 2 0 0 16 [(3, .int 3), (2, .int 2), (0, .ref b), (1, .int 0)] [.int (bl_par v 3)] h _
        refine mi_if_eq okX1_onlyOddOf rfl rfl (fun c_16_3 => ?_) (fun c_16_3 => ?_)
        · refine mi_blk okX1_onlyOddOf 6 (pc' := 8) (lv' := [(3, .int 4), (2, .int 2), (0, .ref b), (1, .int 0)]) (st' := [.int 4, .int 4]) rfl ?_
          refine mi_ic_ge okX1_onlyOddOf rfl rfl (fun c_8 => ?_) (fun c_8 => absurd (by decide) c_8)
          refine mi_blk okX1_onlyOddOf 1 (pc' := 35) (lv' := [(3, .int 4), (2, .int 2), (0, .ref b), (1, .int 0)]) (st' := [.int 2]) rfl ?_
          exact mi_ret_i okX1_onlyOddOf rfl rfl rfl ⟨by rw [bl_ods, if_pos c_16, bl_ods, if_pos c_16_1, bl_ods, if_neg c_16_2, if_pos rfl, bl_ods, if_pos c_16_3, bl_ods], rfl⟩
        · refine mi_blk okX1_onlyOddOf 2 (pc' := 21) (lv' := [(3, .int 3), (2, .int 2), (0, .ref b), (1, .int 0)]) (st' := [.int (-1), .int 2]) rfl ?_
          refine mi_ic_eq okX1_onlyOddOf rfl rfl (fun c_21 => absurd c_21 (by decide)) (fun c_21 => ?_)
          refine mi_blk okX1_onlyOddOf 1 (pc' := 25) (lv' := [(3, .int 3), (2, .int 2), (0, .ref b), (1, .int 0)]) (st' := [.int (-1)]) rfl ?_
          exact mi_ret_i okX1_onlyOddOf rfl rfl rfl ⟨by rw [bl_ods, if_pos c_16, bl_ods, if_pos c_16_1, bl_ods, if_neg c_16_2, if_pos rfl, bl_ods, if_neg c_16_3, if_neg (by decide)], rfl⟩
    · refine mi_blk okX1_onlyOddOf 2 (pc' := 21) (lv' := [(3, .int 1), (2, .int (-1)), (0, .ref b), (1, .int 0)]) (st' := [.int (-1), .int (-1)]) rfl ?_
      refine mi_ic_eq okX1_onlyOddOf rfl rfl (fun c_21 => ?_) (fun c_21 => absurd (by decide) c_21)
      refine mi_blk okX1_onlyOddOf 8 (pc' := 8) (lv' := [(3, .int 2), (2, .int 1), (0, .ref b), (1, .int 0)]) (st' := [.int 4, .int 2]) rfl ?_
      refine mi_ic_ge okX1_onlyOddOf rfl rfl (fun c_8 => absurd c_8 (by decide)) (fun c_8 => ?_)
      refine mi_blk okX1_onlyOddOf 2 (pc' := 13) (lv' := [(3, .int 2), (2, .int 1), (0, .ref b), (1, .int 0)]) (st' := [.int 2, .ref b]) rfl ?_
      refine mi_callV okX1_onlyOddOf (mc := 0) (ms := 0) (mc' := 0) (ms' := 0) (b := b) (As := [.int 2]) (st := []) rfl cv_RX1_35 rfl (by decide) hE hb hc rfl (Nat.le_of_ble_eq_true rfl) (c_parityOf (h := h) hE hb hc) (fun r h1 q => ?_)
      obtain ⟨rfl, e9⟩ := q; have e9 := e9.symm; subst e9
      change mi_W pP X kX1_onlyOddOf 2 0 0 16 [(3, .int 2), (2, .int 1), (0, .ref b), (1, .int 0)] [.int (bl_par v 2)] h _
      refine mi_if_eq okX1_onlyOddOf rfl rfl (fun c_16_2 => ?_) (fun c_16_2 => ?_)
      · refine mi_blk okX1_onlyOddOf 6 (pc' := 8) (lv' := [(3, .int 3), (2, .int 1), (0, .ref b), (1, .int 0)]) (st' := [.int 4, .int 3]) rfl ?_
        refine mi_ic_ge okX1_onlyOddOf rfl rfl (fun c_8 => absurd c_8 (by decide)) (fun c_8 => ?_)
        refine mi_blk okX1_onlyOddOf 2 (pc' := 13) (lv' := [(3, .int 3), (2, .int 1), (0, .ref b), (1, .int 0)]) (st' := [.int 3, .ref b]) rfl ?_
        refine mi_callV okX1_onlyOddOf (mc := 0) (ms := 0) (mc' := 0) (ms' := 0) (b := b) (As := [.int 3]) (st := []) rfl cv_RX1_35 rfl (by decide) hE hb hc rfl (Nat.le_of_ble_eq_true rfl) (c_parityOf (h := h) hE hb hc) (fun r h1 q => ?_)
        obtain ⟨rfl, e9⟩ := q; have e9 := e9.symm; subst e9
        change mi_W pP X kX1_onlyOddOf 2 0 0 16 [(3, .int 3), (2, .int 1), (0, .ref b), (1, .int 0)] [.int (bl_par v 3)] h _
        refine mi_if_eq okX1_onlyOddOf rfl rfl (fun c_16_3 => ?_) (fun c_16_3 => ?_)
        · refine mi_blk okX1_onlyOddOf 6 (pc' := 8) (lv' := [(3, .int 4), (2, .int 1), (0, .ref b), (1, .int 0)]) (st' := [.int 4, .int 4]) rfl ?_
          refine mi_ic_ge okX1_onlyOddOf rfl rfl (fun c_8 => ?_) (fun c_8 => absurd (by decide) c_8)
          refine mi_blk okX1_onlyOddOf 1 (pc' := 35) (lv' := [(3, .int 4), (2, .int 1), (0, .ref b), (1, .int 0)]) (st' := [.int 1]) rfl ?_
          exact mi_ret_i okX1_onlyOddOf rfl rfl rfl ⟨by rw [bl_ods, if_pos c_16, bl_ods, if_neg c_16_1, if_pos rfl, bl_ods, if_pos c_16_2, bl_ods, if_pos c_16_3, bl_ods], rfl⟩
        · refine mi_blk okX1_onlyOddOf 2 (pc' := 21) (lv' := [(3, .int 3), (2, .int 1), (0, .ref b), (1, .int 0)]) (st' := [.int (-1), .int 1]) rfl ?_
          refine mi_ic_eq okX1_onlyOddOf rfl rfl (fun c_21 => absurd c_21 (by decide)) (fun c_21 => ?_)
          refine mi_blk okX1_onlyOddOf 1 (pc' := 25) (lv' := [(3, .int 3), (2, .int 1), (0, .ref b), (1, .int 0)]) (st' := [.int (-1)]) rfl ?_
          exact mi_ret_i okX1_onlyOddOf rfl rfl rfl ⟨by rw [bl_ods, if_pos c_16, bl_ods, if_neg c_16_1, if_pos rfl, bl_ods, if_pos c_16_2, bl_ods, if_neg c_16_3, if_neg (by decide)], rfl⟩
      · refine mi_blk okX1_onlyOddOf 2 (pc' := 21) (lv' := [(3, .int 2), (2, .int 1), (0, .ref b), (1, .int 0)]) (st' := [.int (-1), .int 1]) rfl ?_
        refine mi_ic_eq okX1_onlyOddOf rfl rfl (fun c_21 => absurd c_21 (by decide)) (fun c_21 => ?_)
        refine mi_blk okX1_onlyOddOf 1 (pc' := 25) (lv' := [(3, .int 2), (2, .int 1), (0, .ref b), (1, .int 0)]) (st' := [.int (-1)]) rfl ?_
        exact mi_ret_i okX1_onlyOddOf rfl rfl rfl ⟨by rw [bl_ods, if_pos c_16, bl_ods, if_neg c_16_1, if_pos rfl, bl_ods, if_neg c_16_2, if_neg (by decide)], rfl⟩
  · refine mi_blk okX1_onlyOddOf 2 (pc' := 21) (lv' := [(3, .int 0), (2, .int (-1)), (0, .ref b), (1, .int 0)]) (st' := [.int (-1), .int (-1)]) rfl ?_
    refine mi_ic_eq okX1_onlyOddOf rfl rfl (fun c_21 => ?_) (fun c_21 => absurd (by decide) c_21)
    refine mi_blk okX1_onlyOddOf 8 (pc' := 8) (lv' := [(3, .int 1), (2, .int 0), (0, .ref b), (1, .int 0)]) (st' := [.int 4, .int 1]) rfl ?_
    refine mi_ic_ge okX1_onlyOddOf rfl rfl (fun c_8 => absurd c_8 (by decide)) (fun c_8 => ?_)
    refine mi_blk okX1_onlyOddOf 2 (pc' := 13) (lv' := [(3, .int 1), (2, .int 0), (0, .ref b), (1, .int 0)]) (st' := [.int 1, .ref b]) rfl ?_
    refine mi_callV okX1_onlyOddOf (mc := 0) (ms := 0) (mc' := 0) (ms' := 0) (b := b) (As := [.int 1]) (st := []) rfl cv_RX1_35 rfl (by decide) hE hb hc rfl (Nat.le_of_ble_eq_true rfl) (c_parityOf (h := h) hE hb hc) (fun r h1 q => ?_)
    obtain ⟨rfl, e9⟩ := q; have e9 := e9.symm; subst e9
    change mi_W pP X kX1_onlyOddOf 2 0 0 16 [(3, .int 1), (2, .int 0), (0, .ref b), (1, .int 0)] [.int (bl_par v 1)] h _
    refine mi_if_eq okX1_onlyOddOf rfl rfl (fun c_16_1 => ?_) (fun c_16_1 => ?_)
    · refine mi_blk okX1_onlyOddOf 6 (pc' := 8) (lv' := [(3, .int 2), (2, .int 0), (0, .ref b), (1, .int 0)]) (st' := [.int 4, .int 2]) rfl ?_
      refine mi_ic_ge okX1_onlyOddOf rfl rfl (fun c_8 => absurd c_8 (by decide)) (fun c_8 => ?_)
      refine mi_blk okX1_onlyOddOf 2 (pc' := 13) (lv' := [(3, .int 2), (2, .int 0), (0, .ref b), (1, .int 0)]) (st' := [.int 2, .ref b]) rfl ?_
      refine mi_callV okX1_onlyOddOf (mc := 0) (ms := 0) (mc' := 0) (ms' := 0) (b := b) (As := [.int 2]) (st := []) rfl cv_RX1_35 rfl (by decide) hE hb hc rfl (Nat.le_of_ble_eq_true rfl) (c_parityOf (h := h) hE hb hc) (fun r h1 q => ?_)
      obtain ⟨rfl, e9⟩ := q; have e9 := e9.symm; subst e9
      change mi_W pP X kX1_onlyOddOf 2 0 0 16 [(3, .int 2), (2, .int 0), (0, .ref b), (1, .int 0)] [.int (bl_par v 2)] h _
      refine mi_if_eq okX1_onlyOddOf rfl rfl (fun c_16_2 => ?_) (fun c_16_2 => ?_)
      · refine mi_blk okX1_onlyOddOf 6 (pc' := 8) (lv' := [(3, .int 3), (2, .int 0), (0, .ref b), (1, .int 0)]) (st' := [.int 4, .int 3]) rfl ?_
        refine mi_ic_ge okX1_onlyOddOf rfl rfl (fun c_8 => absurd c_8 (by decide)) (fun c_8 => ?_)
        refine mi_blk okX1_onlyOddOf 2 (pc' := 13) (lv' := [(3, .int 3), (2, .int 0), (0, .ref b), (1, .int 0)]) (st' := [.int 3, .ref b]) rfl ?_
        refine mi_callV okX1_onlyOddOf (mc := 0) (ms := 0) (mc' := 0) (ms' := 0) (b := b) (As := [.int 3]) (st := []) rfl cv_RX1_35 rfl (by decide) hE hb hc rfl (Nat.le_of_ble_eq_true rfl) (c_parityOf (h := h) hE hb hc) (fun r h1 q => ?_)
        obtain ⟨rfl, e9⟩ := q; have e9 := e9.symm; subst e9
        change mi_W pP X kX1_onlyOddOf 2 0 0 16 [(3, .int 3), (2, .int 0), (0, .ref b), (1, .int 0)] [.int (bl_par v 3)] h _
        refine mi_if_eq okX1_onlyOddOf rfl rfl (fun c_16_3 => ?_) (fun c_16_3 => ?_)
        · refine mi_blk okX1_onlyOddOf 6 (pc' := 8) (lv' := [(3, .int 4), (2, .int 0), (0, .ref b), (1, .int 0)]) (st' := [.int 4, .int 4]) rfl ?_
          refine mi_ic_ge okX1_onlyOddOf rfl rfl (fun c_8 => ?_) (fun c_8 => absurd (by decide) c_8)
          refine mi_blk okX1_onlyOddOf 1 (pc' := 35) (lv' := [(3, .int 4), (2, .int 0), (0, .ref b), (1, .int 0)]) (st' := [.int 0]) rfl ?_
          exact mi_ret_i okX1_onlyOddOf rfl rfl rfl ⟨by rw [bl_ods, if_neg c_16, if_pos rfl, bl_ods, if_pos c_16_1, bl_ods, if_pos c_16_2, bl_ods, if_pos c_16_3, bl_ods], rfl⟩
        · refine mi_blk okX1_onlyOddOf 2 (pc' := 21) (lv' := [(3, .int 3), (2, .int 0), (0, .ref b), (1, .int 0)]) (st' := [.int (-1), .int 0]) rfl ?_
          refine mi_ic_eq okX1_onlyOddOf rfl rfl (fun c_21 => absurd c_21 (by decide)) (fun c_21 => ?_)
          refine mi_blk okX1_onlyOddOf 1 (pc' := 25) (lv' := [(3, .int 3), (2, .int 0), (0, .ref b), (1, .int 0)]) (st' := [.int (-1)]) rfl ?_
          exact mi_ret_i okX1_onlyOddOf rfl rfl rfl ⟨by rw [bl_ods, if_neg c_16, if_pos rfl, bl_ods, if_pos c_16_1, bl_ods, if_pos c_16_2, bl_ods, if_neg c_16_3, if_neg (by decide)], rfl⟩
      · refine mi_blk okX1_onlyOddOf 2 (pc' := 21) (lv' := [(3, .int 2), (2, .int 0), (0, .ref b), (1, .int 0)]) (st' := [.int (-1), .int 0]) rfl ?_
        refine mi_ic_eq okX1_onlyOddOf rfl rfl (fun c_21 => absurd c_21 (by decide)) (fun c_21 => ?_)
        refine mi_blk okX1_onlyOddOf 1 (pc' := 25) (lv' := [(3, .int 2), (2, .int 0), (0, .ref b), (1, .int 0)]) (st' := [.int (-1)]) rfl ?_
        exact mi_ret_i okX1_onlyOddOf rfl rfl rfl ⟨by rw [bl_ods, if_neg c_16, if_pos rfl, bl_ods, if_pos c_16_1, bl_ods, if_neg c_16_2, if_neg (by decide)], rfl⟩
    · refine mi_blk okX1_onlyOddOf 2 (pc' := 21) (lv' := [(3, .int 1), (2, .int 0), (0, .ref b), (1, .int 0)]) (st' := [.int (-1), .int 0]) rfl ?_
      refine mi_ic_eq okX1_onlyOddOf rfl rfl (fun c_21 => absurd c_21 (by decide)) (fun c_21 => ?_)
      refine mi_blk okX1_onlyOddOf 1 (pc' := 25) (lv' := [(3, .int 1), (2, .int 0), (0, .ref b), (1, .int 0)]) (st' := [.int (-1)]) rfl ?_
      exact mi_ret_i okX1_onlyOddOf rfl rfl rfl ⟨by rw [bl_ods, if_neg c_16, if_pos rfl, bl_ods, if_neg c_16_1, if_neg (by decide)], rfl⟩
set_option maxHeartbeats 4000000 in
set_option maxRecDepth 100000 in
theorem c_onlyOddOf_4 {X : mi_X} {h : mi_H} {b : Nat} {v : Int64} {e : Int32} (hE : 6 ≤ b) (hb : b < h.1) (hc : h.2 b = bl_c v e) : mi_S pP X kX1_onlyOddOf 2 [.ref b, .int 4] h 0 0 (fun r h1 => r = some (.int (bl_ods v [4, 5, 6, 7] (-1))) ∧ h1 = h) := by
  refine enX1_onlyOddOf (Nat.le_of_ble_eq_true rfl) ?_
  refine mi_blk okX1_onlyOddOf 8 (pc' := 8) (lv' := [(3, .int 4), (2, .int (-1)), (0, .ref b), (1, .int 4)]) (st' := [.int 8, .int 4]) rfl ?_
  refine mi_ic_ge okX1_onlyOddOf rfl rfl (fun c_8 => absurd c_8 (by decide)) (fun c_8 => ?_)
  refine mi_blk okX1_onlyOddOf 2 (pc' := 13) (lv' := [(3, .int 4), (2, .int (-1)), (0, .ref b), (1, .int 4)]) (st' := [.int 4, .ref b]) rfl ?_
  refine mi_callV okX1_onlyOddOf (mc := 0) (ms := 0) (mc' := 0) (ms' := 0) (b := b) (As := [.int 4]) (st := []) rfl cv_RX1_35 rfl (by decide) hE hb hc rfl (Nat.le_of_ble_eq_true rfl) (c_parityOf (h := h) hE hb hc) (fun r h1 q => ?_)
  obtain ⟨rfl, e9⟩ := q; have e9 := e9.symm; subst e9
  change mi_W pP X kX1_onlyOddOf 2 0 0 16 [(3, .int 4), (2, .int (-1)), (0, .ref b), (1, .int 4)] [.int (bl_par v 4)] h _
  refine mi_if_eq okX1_onlyOddOf rfl rfl (fun c_16 => ?_) (fun c_16 => ?_)
  · refine mi_blk okX1_onlyOddOf 6 (pc' := 8) (lv' := [(3, .int 5), (2, .int (-1)), (0, .ref b), (1, .int 4)]) (st' := [.int 8, .int 5]) rfl ?_
    refine mi_ic_ge okX1_onlyOddOf rfl rfl (fun c_8 => absurd c_8 (by decide)) (fun c_8 => ?_)
    refine mi_blk okX1_onlyOddOf 2 (pc' := 13) (lv' := [(3, .int 5), (2, .int (-1)), (0, .ref b), (1, .int 4)]) (st' := [.int 5, .ref b]) rfl ?_
    refine mi_callV okX1_onlyOddOf (mc := 0) (ms := 0) (mc' := 0) (ms' := 0) (b := b) (As := [.int 5]) (st := []) rfl cv_RX1_35 rfl (by decide) hE hb hc rfl (Nat.le_of_ble_eq_true rfl) (c_parityOf (h := h) hE hb hc) (fun r h1 q => ?_)
    obtain ⟨rfl, e9⟩ := q; have e9 := e9.symm; subst e9
    change mi_W pP X kX1_onlyOddOf 2 0 0 16 [(3, .int 5), (2, .int (-1)), (0, .ref b), (1, .int 4)] [.int (bl_par v 5)] h _
    refine mi_if_eq okX1_onlyOddOf rfl rfl (fun c_16_1 => ?_) (fun c_16_1 => ?_)
    · refine mi_blk okX1_onlyOddOf 6 (pc' := 8) (lv' := [(3, .int 6), (2, .int (-1)), (0, .ref b), (1, .int 4)]) (st' := [.int 8, .int 6]) rfl ?_
      refine mi_ic_ge okX1_onlyOddOf rfl rfl (fun c_8 => absurd c_8 (by decide)) (fun c_8 => ?_)
      refine mi_blk okX1_onlyOddOf 2 (pc' := 13) (lv' := [(3, .int 6), (2, .int (-1)), (0, .ref b), (1, .int 4)]) (st' := [.int 6, .ref b]) rfl ?_
      refine mi_callV okX1_onlyOddOf (mc := 0) (ms := 0) (mc' := 0) (ms' := 0) (b := b) (As := [.int 6]) (st := []) rfl cv_RX1_35 rfl (by decide) hE hb hc rfl (Nat.le_of_ble_eq_true rfl) (c_parityOf (h := h) hE hb hc) (fun r h1 q => ?_)
      obtain ⟨rfl, e9⟩ := q; have e9 := e9.symm; subst e9
      change mi_W pP X kX1_onlyOddOf 2 0 0 16 [(3, .int 6), (2, .int (-1)), (0, .ref b), (1, .int 4)] [.int (bl_par v 6)] h _
      refine mi_if_eq okX1_onlyOddOf rfl rfl (fun c_16_2 => ?_) (fun c_16_2 => ?_)
      · refine mi_blk okX1_onlyOddOf 6 (pc' := 8) (lv' := [(3, .int 7), (2, .int (-1)), (0, .ref b), (1, .int 4)]) (st' := [.int 8, .int 7]) rfl ?_
        refine mi_ic_ge okX1_onlyOddOf rfl rfl (fun c_8 => absurd c_8 (by decide)) (fun c_8 => ?_)
        refine mi_blk okX1_onlyOddOf 2 (pc' := 13) (lv' := [(3, .int 7), (2, .int (-1)), (0, .ref b), (1, .int 4)]) (st' := [.int 7, .ref b]) rfl ?_
        refine mi_callV okX1_onlyOddOf (mc := 0) (ms := 0) (mc' := 0) (ms' := 0) (b := b) (As := [.int 7]) (st := []) rfl cv_RX1_35 rfl (by decide) hE hb hc rfl (Nat.le_of_ble_eq_true rfl) (c_parityOf (h := h) hE hb hc) (fun r h1 q => ?_)
        obtain ⟨rfl, e9⟩ := q; have e9 := e9.symm; subst e9
        change mi_W pP X kX1_onlyOddOf 2 0 0 16 [(3, .int 7), (2, .int (-1)), (0, .ref b), (1, .int 4)] [.int (bl_par v 7)] h _
        refine mi_if_eq okX1_onlyOddOf rfl rfl (fun c_16_3 => ?_) (fun c_16_3 => ?_)
        · refine mi_blk okX1_onlyOddOf 6 (pc' := 8) (lv' := [(3, .int 8), (2, .int (-1)), (0, .ref b), (1, .int 4)]) (st' := [.int 8, .int 8]) rfl ?_
          refine mi_ic_ge okX1_onlyOddOf rfl rfl (fun c_8 => ?_) (fun c_8 => absurd (by decide) c_8)
          refine mi_blk okX1_onlyOddOf 1 (pc' := 35) (lv' := [(3, .int 8), (2, .int (-1)), (0, .ref b), (1, .int 4)]) (st' := [.int (-1)]) rfl ?_
          exact mi_ret_i okX1_onlyOddOf rfl rfl rfl ⟨by rw [bl_ods, if_pos c_16, bl_ods, if_pos c_16_1, bl_ods, if_pos c_16_2, bl_ods, if_pos c_16_3, bl_ods], rfl⟩
        · refine mi_blk okX1_onlyOddOf 2 (pc' := 21) (lv' := [(3, .int 7), (2, .int (-1)), (0, .ref b), (1, .int 4)]) (st' := [.int (-1), .int (-1)]) rfl ?_
          refine mi_ic_eq okX1_onlyOddOf rfl rfl (fun c_21 => ?_) (fun c_21 => absurd (by decide) c_21)
          refine mi_blk okX1_onlyOddOf 8 (pc' := 8) (lv' := [(3, .int 8), (2, .int 7), (0, .ref b), (1, .int 4)]) (st' := [.int 8, .int 8]) rfl ?_
          refine mi_ic_ge okX1_onlyOddOf rfl rfl (fun c_8 => ?_) (fun c_8 => absurd (by decide) c_8)
          refine mi_blk okX1_onlyOddOf 1 (pc' := 35) (lv' := [(3, .int 8), (2, .int 7), (0, .ref b), (1, .int 4)]) (st' := [.int 7]) rfl ?_
          exact mi_ret_i okX1_onlyOddOf rfl rfl rfl ⟨by rw [bl_ods, if_pos c_16, bl_ods, if_pos c_16_1, bl_ods, if_pos c_16_2, bl_ods, if_neg c_16_3, if_pos rfl, bl_ods], rfl⟩
      · refine mi_blk okX1_onlyOddOf 2 (pc' := 21) (lv' := [(3, .int 6), (2, .int (-1)), (0, .ref b), (1, .int 4)]) (st' := [.int (-1), .int (-1)]) rfl ?_
        refine mi_ic_eq okX1_onlyOddOf rfl rfl (fun c_21 => ?_) (fun c_21 => absurd (by decide) c_21)
        refine mi_blk okX1_onlyOddOf 8 (pc' := 8) (lv' := [(3, .int 7), (2, .int 6), (0, .ref b), (1, .int 4)]) (st' := [.int 8, .int 7]) rfl ?_
        refine mi_ic_ge okX1_onlyOddOf rfl rfl (fun c_8 => absurd c_8 (by decide)) (fun c_8 => ?_)
        refine mi_blk okX1_onlyOddOf 2 (pc' := 13) (lv' := [(3, .int 7), (2, .int 6), (0, .ref b), (1, .int 4)]) (st' := [.int 7, .ref b]) rfl ?_
        refine mi_callV okX1_onlyOddOf (mc := 0) (ms := 0) (mc' := 0) (ms' := 0) (b := b) (As := [.int 7]) (st := []) rfl cv_RX1_35 rfl (by decide) hE hb hc rfl (Nat.le_of_ble_eq_true rfl) (c_parityOf (h := h) hE hb hc) (fun r h1 q => ?_)
        obtain ⟨rfl, e9⟩ := q; have e9 := e9.symm; subst e9
        change mi_W pP X kX1_onlyOddOf 2 0 0 16 [(3, .int 7), (2, .int 6), (0, .ref b), (1, .int 4)] [.int (bl_par v 7)] h _
        refine mi_if_eq okX1_onlyOddOf rfl rfl (fun c_16_3 => ?_) (fun c_16_3 => ?_)
        · refine mi_blk okX1_onlyOddOf 6 (pc' := 8) (lv' := [(3, .int 8), (2, .int 6), (0, .ref b), (1, .int 4)]) (st' := [.int 8, .int 8]) rfl ?_
          refine mi_ic_ge okX1_onlyOddOf rfl rfl (fun c_8 => ?_) (fun c_8 => absurd (by decide) c_8)
          refine mi_blk okX1_onlyOddOf 1 (pc' := 35) (lv' := [(3, .int 8), (2, .int 6), (0, .ref b), (1, .int 4)]) (st' := [.int 6]) rfl ?_
          exact mi_ret_i okX1_onlyOddOf rfl rfl rfl ⟨by rw [bl_ods, if_pos c_16, bl_ods, if_pos c_16_1, bl_ods, if_neg c_16_2, if_pos rfl, bl_ods, if_pos c_16_3, bl_ods], rfl⟩
        · refine mi_blk okX1_onlyOddOf 2 (pc' := 21) (lv' := [(3, .int 7), (2, .int 6), (0, .ref b), (1, .int 4)]) (st' := [.int (-1), .int 6]) rfl ?_
          refine mi_ic_eq okX1_onlyOddOf rfl rfl (fun c_21 => absurd c_21 (by decide)) (fun c_21 => ?_)
          refine mi_blk okX1_onlyOddOf 1 (pc' := 25) (lv' := [(3, .int 7), (2, .int 6), (0, .ref b), (1, .int 4)]) (st' := [.int (-1)]) rfl ?_
          exact mi_ret_i okX1_onlyOddOf rfl rfl rfl ⟨by rw [bl_ods, if_pos c_16, bl_ods, if_pos c_16_1, bl_ods, if_neg c_16_2, if_pos rfl, bl_ods, if_neg c_16_3, if_neg (by decide)], rfl⟩
    · refine mi_blk okX1_onlyOddOf 2 (pc' := 21) (lv' := [(3, .int 5), (2, .int (-1)), (0, .ref b), (1, .int 4)]) (st' := [.int (-1), .int (-1)]) rfl ?_
      refine mi_ic_eq okX1_onlyOddOf rfl rfl (fun c_21 => ?_) (fun c_21 => absurd (by decide) c_21)
      refine mi_blk okX1_onlyOddOf 8 (pc' := 8) (lv' := [(3, .int 6), (2, .int 5), (0, .ref b), (1, .int 4)]) (st' := [.int 8, .int 6]) rfl ?_
      refine mi_ic_ge okX1_onlyOddOf rfl rfl (fun c_8 => absurd c_8 (by decide)) (fun c_8 => ?_)
      refine mi_blk okX1_onlyOddOf 2 (pc' := 13) (lv' := [(3, .int 6), (2, .int 5), (0, .ref b), (1, .int 4)]) (st' := [.int 6, .ref b]) rfl ?_
      refine mi_callV okX1_onlyOddOf (mc := 0) (ms := 0) (mc' := 0) (ms' := 0) (b := b) (As := [.int 6]) (st := []) rfl cv_RX1_35 rfl (by decide) hE hb hc rfl (Nat.le_of_ble_eq_true rfl) (c_parityOf (h := h) hE hb hc) (fun r h1 q => ?_)
      obtain ⟨rfl, e9⟩ := q; have e9 := e9.symm; subst e9
      change mi_W pP X kX1_onlyOddOf 2 0 0 16 [(3, .int 6), (2, .int 5), (0, .ref b), (1, .int 4)] [.int (bl_par v 6)] h _
      refine mi_if_eq okX1_onlyOddOf rfl rfl (fun c_16_2 => ?_) (fun c_16_2 => ?_)
      · refine mi_blk okX1_onlyOddOf 6 (pc' := 8) (lv' := [(3, .int 7), (2, .int 5), (0, .ref b), (1, .int 4)]) (st' := [.int 8, .int 7]) rfl ?_
        refine mi_ic_ge okX1_onlyOddOf rfl rfl (fun c_8 => absurd c_8 (by decide)) (fun c_8 => ?_)
        refine mi_blk okX1_onlyOddOf 2 (pc' := 13) (lv' := [(3, .int 7), (2, .int 5), (0, .ref b), (1, .int 4)]) (st' := [.int 7, .ref b]) rfl ?_
        refine mi_callV okX1_onlyOddOf (mc := 0) (ms := 0) (mc' := 0) (ms' := 0) (b := b) (As := [.int 7]) (st := []) rfl cv_RX1_35 rfl (by decide) hE hb hc rfl (Nat.le_of_ble_eq_true rfl) (c_parityOf (h := h) hE hb hc) (fun r h1 q => ?_)
        obtain ⟨rfl, e9⟩ := q; have e9 := e9.symm; subst e9
        change mi_W pP X kX1_onlyOddOf 2 0 0 16 [(3, .int 7), (2, .int 5), (0, .ref b), (1, .int 4)] [.int (bl_par v 7)] h _
        refine mi_if_eq okX1_onlyOddOf rfl rfl (fun c_16_3 => ?_) (fun c_16_3 => ?_)
        · refine mi_blk okX1_onlyOddOf 6 (pc' := 8) (lv' := [(3, .int 8), (2, .int 5), (0, .ref b), (1, .int 4)]) (st' := [.int 8, .int 8]) rfl ?_
          refine mi_ic_ge okX1_onlyOddOf rfl rfl (fun c_8 => ?_) (fun c_8 => absurd (by decide) c_8)
          refine mi_blk okX1_onlyOddOf 1 (pc' := 35) (lv' := [(3, .int 8), (2, .int 5), (0, .ref b), (1, .int 4)]) (st' := [.int 5]) rfl ?_
          exact mi_ret_i okX1_onlyOddOf rfl rfl rfl ⟨by rw [bl_ods, if_pos c_16, bl_ods, if_neg c_16_1, if_pos rfl, bl_ods, if_pos c_16_2, bl_ods, if_pos c_16_3, bl_ods], rfl⟩
        · refine mi_blk okX1_onlyOddOf 2 (pc' := 21) (lv' := [(3, .int 7), (2, .int 5), (0, .ref b), (1, .int 4)]) (st' := [.int (-1), .int 5]) rfl ?_
          refine mi_ic_eq okX1_onlyOddOf rfl rfl (fun c_21 => absurd c_21 (by decide)) (fun c_21 => ?_)
          refine mi_blk okX1_onlyOddOf 1 (pc' := 25) (lv' := [(3, .int 7), (2, .int 5), (0, .ref b), (1, .int 4)]) (st' := [.int (-1)]) rfl ?_
          exact mi_ret_i okX1_onlyOddOf rfl rfl rfl ⟨by rw [bl_ods, if_pos c_16, bl_ods, if_neg c_16_1, if_pos rfl, bl_ods, if_pos c_16_2, bl_ods, if_neg c_16_3, if_neg (by decide)], rfl⟩
      · refine mi_blk okX1_onlyOddOf 2 (pc' := 21) (lv' := [(3, .int 6), (2, .int 5), (0, .ref b), (1, .int 4)]) (st' := [.int (-1), .int 5]) rfl ?_
        refine mi_ic_eq okX1_onlyOddOf rfl rfl (fun c_21 => absurd c_21 (by decide)) (fun c_21 => ?_)
        refine mi_blk okX1_onlyOddOf 1 (pc' := 25) (lv' := [(3, .int 6), (2, .int 5), (0, .ref b), (1, .int 4)]) (st' := [.int (-1)]) rfl ?_
        exact mi_ret_i okX1_onlyOddOf rfl rfl rfl ⟨by rw [bl_ods, if_pos c_16, bl_ods, if_neg c_16_1, if_pos rfl, bl_ods, if_neg c_16_2, if_neg (by decide)], rfl⟩
  · refine mi_blk okX1_onlyOddOf 2 (pc' := 21) (lv' := [(3, .int 4), (2, .int (-1)), (0, .ref b), (1, .int 4)]) (st' := [.int (-1), .int (-1)]) rfl ?_
    refine mi_ic_eq okX1_onlyOddOf rfl rfl (fun c_21 => ?_) (fun c_21 => absurd (by decide) c_21)
    refine mi_blk okX1_onlyOddOf 8 (pc' := 8) (lv' := [(3, .int 5), (2, .int 4), (0, .ref b), (1, .int 4)]) (st' := [.int 8, .int 5]) rfl ?_
    refine mi_ic_ge okX1_onlyOddOf rfl rfl (fun c_8 => absurd c_8 (by decide)) (fun c_8 => ?_)
    refine mi_blk okX1_onlyOddOf 2 (pc' := 13) (lv' := [(3, .int 5), (2, .int 4), (0, .ref b), (1, .int 4)]) (st' := [.int 5, .ref b]) rfl ?_
    refine mi_callV okX1_onlyOddOf (mc := 0) (ms := 0) (mc' := 0) (ms' := 0) (b := b) (As := [.int 5]) (st := []) rfl cv_RX1_35 rfl (by decide) hE hb hc rfl (Nat.le_of_ble_eq_true rfl) (c_parityOf (h := h) hE hb hc) (fun r h1 q => ?_)
    obtain ⟨rfl, e9⟩ := q; have e9 := e9.symm; subst e9
    change mi_W pP X kX1_onlyOddOf 2 0 0 16 [(3, .int 5), (2, .int 4), (0, .ref b), (1, .int 4)] [.int (bl_par v 5)] h _
    refine mi_if_eq okX1_onlyOddOf rfl rfl (fun c_16_1 => ?_) (fun c_16_1 => ?_)
    · refine mi_blk okX1_onlyOddOf 6 (pc' := 8) (lv' := [(3, .int 6), (2, .int 4), (0, .ref b), (1, .int 4)]) (st' := [.int 8, .int 6]) rfl ?_
      refine mi_ic_ge okX1_onlyOddOf rfl rfl (fun c_8 => absurd c_8 (by decide)) (fun c_8 => ?_)
      refine mi_blk okX1_onlyOddOf 2 (pc' := 13) (lv' := [(3, .int 6), (2, .int 4), (0, .ref b), (1, .int 4)]) (st' := [.int 6, .ref b]) rfl ?_
      refine mi_callV okX1_onlyOddOf (mc := 0) (ms := 0) (mc' := 0) (ms' := 0) (b := b) (As := [.int 6]) (st := []) rfl cv_RX1_35 rfl (by decide) hE hb hc rfl (Nat.le_of_ble_eq_true rfl) (c_parityOf (h := h) hE hb hc) (fun r h1 q => ?_)
      obtain ⟨rfl, e9⟩ := q; have e9 := e9.symm; subst e9
      change mi_W pP X kX1_onlyOddOf 2 0 0 16 [(3, .int 6), (2, .int 4), (0, .ref b), (1, .int 4)] [.int (bl_par v 6)] h _
      refine mi_if_eq okX1_onlyOddOf rfl rfl (fun c_16_2 => ?_) (fun c_16_2 => ?_)
      · refine mi_blk okX1_onlyOddOf 6 (pc' := 8) (lv' := [(3, .int 7), (2, .int 4), (0, .ref b), (1, .int 4)]) (st' := [.int 8, .int 7]) rfl ?_
        refine mi_ic_ge okX1_onlyOddOf rfl rfl (fun c_8 => absurd c_8 (by decide)) (fun c_8 => ?_)
        refine mi_blk okX1_onlyOddOf 2 (pc' := 13) (lv' := [(3, .int 7), (2, .int 4), (0, .ref b), (1, .int 4)]) (st' := [.int 7, .ref b]) rfl ?_
        refine mi_callV okX1_onlyOddOf (mc := 0) (ms := 0) (mc' := 0) (ms' := 0) (b := b) (As := [.int 7]) (st := []) rfl cv_RX1_35 rfl (by decide) hE hb hc rfl (Nat.le_of_ble_eq_true rfl) (c_parityOf (h := h) hE hb hc) (fun r h1 q => ?_)
        obtain ⟨rfl, e9⟩ := q; have e9 := e9.symm; subst e9
        change mi_W pP X kX1_onlyOddOf 2 0 0 16 [(3, .int 7), (2, .int 4), (0, .ref b), (1, .int 4)] [.int (bl_par v 7)] h _
        refine mi_if_eq okX1_onlyOddOf rfl rfl (fun c_16_3 => ?_) (fun c_16_3 => ?_)
        · refine mi_blk okX1_onlyOddOf 6 (pc' := 8) (lv' := [(3, .int 8), (2, .int 4), (0, .ref b), (1, .int 4)]) (st' := [.int 8, .int 8]) rfl ?_
          refine mi_ic_ge okX1_onlyOddOf rfl rfl (fun c_8 => ?_) (fun c_8 => absurd (by decide) c_8)
          refine mi_blk okX1_onlyOddOf 1 (pc' := 35) (lv' := [(3, .int 8), (2, .int 4), (0, .ref b), (1, .int 4)]) (st' := [.int 4]) rfl ?_
          exact mi_ret_i okX1_onlyOddOf rfl rfl rfl ⟨by rw [bl_ods, if_neg c_16, if_pos rfl, bl_ods, if_pos c_16_1, bl_ods, if_pos c_16_2, bl_ods, if_pos c_16_3, bl_ods], rfl⟩
        · refine mi_blk okX1_onlyOddOf 2 (pc' := 21) (lv' := [(3, .int 7), (2, .int 4), (0, .ref b), (1, .int 4)]) (st' := [.int (-1), .int 4]) rfl ?_
          refine mi_ic_eq okX1_onlyOddOf rfl rfl (fun c_21 => absurd c_21 (by decide)) (fun c_21 => ?_)
          refine mi_blk okX1_onlyOddOf 1 (pc' := 25) (lv' := [(3, .int 7), (2, .int 4), (0, .ref b), (1, .int 4)]) (st' := [.int (-1)]) rfl ?_
          exact mi_ret_i okX1_onlyOddOf rfl rfl rfl ⟨by rw [bl_ods, if_neg c_16, if_pos rfl, bl_ods, if_pos c_16_1, bl_ods, if_pos c_16_2, bl_ods, if_neg c_16_3, if_neg (by decide)], rfl⟩
      · refine mi_blk okX1_onlyOddOf 2 (pc' := 21) (lv' := [(3, .int 6), (2, .int 4), (0, .ref b), (1, .int 4)]) (st' := [.int (-1), .int 4]) rfl ?_
        refine mi_ic_eq okX1_onlyOddOf rfl rfl (fun c_21 => absurd c_21 (by decide)) (fun c_21 => ?_)
        refine mi_blk okX1_onlyOddOf 1 (pc' := 25) (lv' := [(3, .int 6), (2, .int 4), (0, .ref b), (1, .int 4)]) (st' := [.int (-1)]) rfl ?_
        exact mi_ret_i okX1_onlyOddOf rfl rfl rfl ⟨by rw [bl_ods, if_neg c_16, if_pos rfl, bl_ods, if_pos c_16_1, bl_ods, if_neg c_16_2, if_neg (by decide)], rfl⟩
    · refine mi_blk okX1_onlyOddOf 2 (pc' := 21) (lv' := [(3, .int 5), (2, .int 4), (0, .ref b), (1, .int 4)]) (st' := [.int (-1), .int 4]) rfl ?_
      refine mi_ic_eq okX1_onlyOddOf rfl rfl (fun c_21 => absurd c_21 (by decide)) (fun c_21 => ?_)
      refine mi_blk okX1_onlyOddOf 1 (pc' := 25) (lv' := [(3, .int 5), (2, .int 4), (0, .ref b), (1, .int 4)]) (st' := [.int (-1)]) rfl ?_
      exact mi_ret_i okX1_onlyOddOf rfl rfl rfl ⟨by rw [bl_ods, if_neg c_16, if_pos rfl, bl_ods, if_neg c_16_1, if_neg (by decide)], rfl⟩
