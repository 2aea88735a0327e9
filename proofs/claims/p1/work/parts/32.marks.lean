-- PitHouse$Marks: level, dsv, turns, farthest
abbrev mk_S : Type := Int32 × Int32 × Int32 × Int32
abbrev mk_c (s : mk_S) : mi_C := .inr (5, [.int s.1, .int s.2.1, .int s.2.2.1, .int s.2.2.2])
def mk_abs (x : Int32) : Int32 := if 0 ≤ x then x else 0 - x
def mk_max (x y : Int32) : Int32 := if x < y then y else x
def mk_m (i : Nat) : Int32 := [128, 64, 32, 16, 8, 4, 2, 1].getD i 0
theorem mk_m_pos {i : Nat} (h : i < 8) : ¬ mk_m i ≤ 0 := (by decide : ∀ i, i < 8 → ¬ mk_m i ≤ 0) i h
theorem mk_m_half {i : Nat} (h : i < 8) : mk_m i >>> (1 &&& 31) = mk_m (i + 1) := (by decide : ∀ i, i < 8 → mk_m i >>> (1 &&& 31) = mk_m (i + 1)) i h
/-- one bit is put -/
def mk_bit (bits : Int32) (s : mk_S) (m : Int32) : mk_S :=
  if bits &&& m = 0 then (s.1, s.2.1 + s.1, s.2.2.1, mk_max s.2.2.2 (mk_abs (s.2.1 + s.1))) else (-s.1, s.2.1 + -s.1, s.2.2.1 + 1, mk_max s.2.2.2 (mk_abs (s.2.1 + -s.1)))
def mk_pb (bits : Int32) (s : mk_S) : Nat → mk_S
  | 0 => s
  | n + 1 => mk_bit bits (mk_pb bits s n) (mk_m n)
def mk_db (bits l d : Int32) : Nat → Int32 × Int32
  | 0 => (l, d)
  | n + 1 => if bits &&& mk_m n = 0 then ((mk_db bits l d n).1, (mk_db bits l d n).2 + (mk_db bits l d n).1) else (-(mk_db bits l d n).1, (mk_db bits l d n).2 + -(mk_db bits l d n).1)
def mk_jn (l d ahead w : Int32) : Int32 := if ahead = 0 then (if w &&& 64 = 0 then (if mk_abs (mk_db (128 ||| w) l d 8).2 < mk_abs (mk_db w l d 8).2 then 1 else 0) else 0) else 0
def mk_W (j : Nat) : Int32 := [32, 33, 34, 36, 37, 40, 41, 42, 64, 65, 66, 68, 69, 72, 73, 74].getD j 0
def mi_X4 (X : mi_X) : Prop := (X 4).1 = 16 ∧ ∀ j, j < 16 → (X 4).2 j = mk_W j
def mk_w (v : Int64) (p : Nat) : Int32 := mk_W (bl_at v (nI p) &&& 15).toNatClampNeg
/-- the first n places are marked; and the bit ahead -/
def mk_all (v : Int64) : Nat → mk_S × Int32
  | 0 => ((1, 0, 0, 0), 0)
  | n + 1 => (mk_pb (if mk_jn (mk_all v n).1.1 (mk_all v n).1.2.1 (mk_all v n).2 (mk_w v n) = 0 then mk_w v n else 128 ||| mk_w v n) (mk_all v n).1 8, mk_w v n &&& 1)
theorem i32_and15 (x : Int32) : ∃ n, n < 16 ∧ x &&& 15 = nI n := by
  refine ⟨(x.toBitVec &&& 15#32).toNat, ?_, ?_⟩
  · rw [BitVec.toNat_and]
    exact Nat.lt_succ_of_le Nat.and_le_right
  · apply Int32.toBitVec_inj.mp
    show x.toBitVec &&& 15#32 = (Int32.ofNat _).toBitVec
    show x.toBitVec &&& 15#32 = BitVec.ofNat 32 _
    rw [BitVec.ofNat_toNat, BitVec.setWidth_eq]
theorem i32_in16 (x : Int32) : vp_in (x &&& 15) 16 := by
  obtain ⟨n, h1, h2⟩ := i32_and15 x
  rw [h2]
  exact vp_in_lt h1 (by decide)
theorem i32_clamp16 (x : Int32) : (x &&& 15).toNatClampNeg < 16 := by
  obtain ⟨n, h1, h2⟩ := i32_and15 x
  rw [h2, nI_clamp (by omega)]
  exact h1
set_option maxHeartbeats 4000000 in
set_option maxRecDepth 100000 in
theorem l_db {X : mi_X} {h : mi_H} {a : Nat} {s : mk_S} (hE : 6 ≤ a) (ha : a < h.1) {t : Int32} {Q : Option Value → mi_H → Prop} (hQ : Q (some (.int (mk_db t s.1 s.2.1 8).2)) h) : ∀ (n i : Nat), i + n = 8 → mi_W pP X kX4_dsvBehind 0 0 0 15 [(4, .int (mk_m i)), (3, .int ((mk_db t s.1 s.2.1 i).2)), (2, .int ((mk_db t s.1 s.2.1 i).1)), (0, .ref a), (1, .int t)] [] h Q := by
  intro n
  induction n with
  | zero =>
    intro i hi
    obtain rfl : i = 8 := by omega
    refine mi_blk okX4_dsvBehind 1 (pc' := 17) (lv' := [(4, .int (mk_m 8)), (3, .int ((mk_db t s.1 s.2.1 8).2)), (2, .int ((mk_db t s.1 s.2.1 8).1)), (0, .ref a), (1, .int t)]) (st' := [.int (mk_m 8)]) rfl ?_
    refine mi_if_le okX4_dsvBehind rfl rfl (fun c_17 => ?_) (fun c_17 => absurd (by decide) c_17)
    refine mi_blk okX4_dsvBehind 1 (pc' := 44) (lv' := [(4, .int (mk_m 8)), (3, .int ((mk_db t s.1 s.2.1 8).2)), (2, .int ((mk_db t s.1 s.2.1 8).1)), (0, .ref a), (1, .int t)]) (st' := [.int ((mk_db t s.1 s.2.1 8).2)]) rfl ?_
    exact mi_ret_i okX4_dsvBehind rfl rfl rfl hQ
  | succ n ih =>
    intro i hi
    refine mi_blk okX4_dsvBehind 1 (pc' := 17) (lv' := [(4, .int (mk_m i)), (3, .int ((mk_db t s.1 s.2.1 i).2)), (2, .int ((mk_db t s.1 s.2.1 i).1)), (0, .ref a), (1, .int t)]) (st' := [.int (mk_m i)]) rfl ?_
    refine mi_if_le okX4_dsvBehind rfl rfl (fun c_17 => absurd c_17 (mk_m_pos (by omega))) (fun c_17 => ?_)
    refine mi_blk okX4_dsvBehind 3 (pc' := 24) (lv' := [(4, .int (mk_m i)), (3, .int ((mk_db t s.1 s.2.1 i).2)), (2, .int ((mk_db t s.1 s.2.1 i).1)), (0, .ref a), (1, .int t)]) (st' := [.int (t &&& (mk_m i))]) rfl ?_
    refine mi_if_eq okX4_dsvBehind rfl rfl (fun c_24 => ?_) (fun c_24 => ?_)
    · refine mi_blk okX4_dsvBehind 9 (pc' := 15) (lv' := [(4, .int ((mk_m i) >>> (1 &&& 31))), (3, .int (((mk_db t s.1 s.2.1 i).2) + ((mk_db t s.1 s.2.1 i).1))), (2, .int ((mk_db t s.1 s.2.1 i).1)), (0, .ref a), (1, .int t)]) (st' := []) rfl ?_
      rw [mk_m_half (by omega)]
      have e1 : mk_db t s.1 s.2.1 (i + 1) = ((mk_db t s.1 s.2.1 i).1, (mk_db t s.1 s.2.1 i).2 + (mk_db t s.1 s.2.1 i).1) := by rw [mk_db, if_pos c_24]
      have w := ih (i + 1) (by omega)
      rw [e1] at w
      exact w.locs (by simp)
    · refine mi_blk okX4_dsvBehind 12 (pc' := 15) (lv' := [(4, .int ((mk_m i) >>> (1 &&& 31))), (3, .int (((mk_db t s.1 s.2.1 i).2) + (-((mk_db t s.1 s.2.1 i).1)))), (2, .int (-((mk_db t s.1 s.2.1 i).1))), (0, .ref a), (1, .int t)]) (st' := []) rfl ?_
      rw [mk_m_half (by omega)]
      have e1 : mk_db t s.1 s.2.1 (i + 1) = (-(mk_db t s.1 s.2.1 i).1, (mk_db t s.1 s.2.1 i).2 + -(mk_db t s.1 s.2.1 i).1) := by rw [mk_db, if_neg c_24]
      have w := ih (i + 1) (by omega)
      rw [e1] at w
      exact w.locs (by simp)
set_option maxHeartbeats 4000000 in
set_option maxRecDepth 100000 in
theorem c_dsvBehind {X : mi_X} {h : mi_H} {a : Nat} {s : mk_S} (hE : 6 ≤ a) (ha : a < h.1) (hc : h.2 a = mk_c s) {t : Int32} : mi_S pP X kX4_dsvBehind 0 [.ref a, .int t] h 0 0 (fun r h1 => r = some (.int (mk_db t s.1 s.2.1 8).2) ∧ h1 = h) := by
  refine enX4_dsvBehind (Nat.le_of_ble_eq_true rfl) ?_
  refine mi_blk okX4_dsvBehind 1 (pc' := 1) (lv' := [(0, .ref a), (1, .int t)]) (st' := [.ref a]) rfl ?_
  refine mi_getf okX4_dsvBehind rfl fg_RX4_7 hE ha hc (v := .int s.1) rfl ?_
  refine mi_blk okX4_dsvBehind 2 (pc' := 6) (lv' := [(2, .int s.1), (0, .ref a), (1, .int t)]) (st' := [.ref a]) rfl ?_
  refine mi_getf okX4_dsvBehind rfl fg_RX4_13 hE ha hc (v := .int s.2.1) rfl ?_
  refine mi_blk okX4_dsvBehind 3 (pc' := 15) (lv' := [(4, .int 128), (3, .int s.2.1), (2, .int s.1), (0, .ref a), (1, .int t)]) (st' := []) rfl ?_
  exact l_db (s := s) (t := t) hE ha ⟨rfl, rfl⟩ 8 0 rfl
set_option maxHeartbeats 4000000 in
set_option maxRecDepth 100000 in
theorem c_isJoined {X : mi_X} {h : mi_H} {a : Nat} {s : mk_S} (hE : 6 ≤ a) (ha : a < h.1) (hc : h.2 a = mk_c s) {g w : Int32} : mi_S pP X kX4_isJoined 1 [.ref a, .int g, .int w] h 0 0 (fun r h1 => r = some (.int (mk_jn s.1 s.2.1 g w)) ∧ h1 = h) := by
  refine enX4_isJoined (Nat.le_of_ble_eq_true rfl) ?_
  refine mi_blk okX4_isJoined 1 (pc' := 1) (lv' := [(0, .ref a), (1, .int g), (2, .int w)]) (st' := [.int g]) rfl ?_
  refine mi_if_ne okX4_isJoined rfl rfl (fun c_1 => ?_) (fun c_1 => ?_)
  · refine mi_blk okX4_isJoined 1 (pc' := 12) (lv' := [(0, .ref a), (1, .int g), (2, .int w)]) (st' := [.int 0]) rfl ?_
    exact mi_ret_i okX4_isJoined rfl rfl rfl ⟨by rw [mk_jn, if_neg c_1], rfl⟩
  · refine mi_blk okX4_isJoined 3 (pc' := 8) (lv' := [(0, .ref a), (1, .int g), (2, .int w)]) (st' := [.int (w &&& 64)]) rfl ?_
    refine mi_if_eq okX4_isJoined rfl rfl (fun c_8 => ?_) (fun c_8 => ?_)
    · refine mi_blk okX4_isJoined 4 (pc' := 19) (lv' := [(0, .ref a), (1, .int g), (2, .int w)]) (st' := [.int (128 ||| w), .ref a]) rfl ?_
      refine mi_callV okX4_isJoined (mc := 0) (ms := 0) (mc' := 0) (ms' := 0) (b := a) (As := [.int (128 ||| w)]) (st := []) rfl cv_RX4_40 rfl (by decide) hE ha hc rfl (Nat.le_of_ble_eq_true rfl) (c_dsvBehind (h := h) (s := s) hE ha hc) (fun r h1 q => ?_)
      obtain ⟨rfl, e9⟩ := q; have e9 := e9.symm; subst e9
      change mi_W pP X kX4_isJoined 1 0 0 22 [(0, .ref a), (1, .int g), (2, .int w)] [.int ((mk_db (128 ||| w) s.1 s.2.1 8).2)] h _
      refine mi_abs okX4_isJoined rfl mm_RX4_43 ms_abs mz_Math mc_abs (by decide) (Nat.le_of_ble_eq_true rfl) ?_
      refine mi_blk okX4_isJoined 2 (pc' := 27) (lv' := [(0, .ref a), (1, .int g), (2, .int w)]) (st' := [.int w, .ref a, .int (if 0 ≤ (mk_db (128 ||| w) s.1 s.2.1 8).2 then (mk_db (128 ||| w) s.1 s.2.1 8).2 else 0 - ((mk_db (128 ||| w) s.1 s.2.1 8).2))]) rfl ?_
      refine mi_callV okX4_isJoined (mc := 0) (ms := 0) (mc' := 0) (ms' := 0) (b := a) (As := [.int w]) (st := [.int (if 0 ≤ (mk_db (128 ||| w) s.1 s.2.1 8).2 then (mk_db (128 ||| w) s.1 s.2.1 8).2 else 0 - ((mk_db (128 ||| w) s.1 s.2.1 8).2))]) rfl cv_RX4_40 rfl (by decide) hE ha hc rfl (Nat.le_of_ble_eq_true rfl) (c_dsvBehind (h := h) (s := s) hE ha hc) (fun r h1 q => ?_)
      obtain ⟨rfl, e9⟩ := q; have e9 := e9.symm; subst e9
      change mi_W pP X kX4_isJoined 1 0 0 30 [(0, .ref a), (1, .int g), (2, .int w)] [.int ((mk_db w s.1 s.2.1 8).2), .int (if 0 ≤ (mk_db (128 ||| w) s.1 s.2.1 8).2 then (mk_db (128 ||| w) s.1 s.2.1 8).2 else 0 - ((mk_db (128 ||| w) s.1 s.2.1 8).2))] h _
      refine mi_abs okX4_isJoined rfl mm_RX4_43 ms_abs mz_Math mc_abs (by decide) (Nat.le_of_ble_eq_true rfl) ?_
      refine mi_ic_ge okX4_isJoined rfl rfl (fun c_33 => ?_) (fun c_33 => ?_)
      · refine mi_blk okX4_isJoined 1 (pc' := 41) (lv' := [(0, .ref a), (1, .int g), (2, .int w)]) (st' := [.int 0]) rfl ?_
        exact mi_ret_i okX4_isJoined rfl rfl rfl ⟨by rw [mk_jn, if_pos c_1, if_pos c_8, if_neg (show ¬ mk_abs (mk_db (128 ||| w) s.1 s.2.1 8).2 < mk_abs (mk_db w s.1 s.2.1 8).2 from mi_le_nlt c_33)], rfl⟩
      · refine mi_blk okX4_isJoined 2 (pc' := 41) (lv' := [(0, .ref a), (1, .int g), (2, .int w)]) (st' := [.int 1]) rfl ?_
        exact mi_ret_i okX4_isJoined rfl rfl rfl ⟨by rw [mk_jn, if_pos c_1, if_pos c_8, if_pos (show mk_abs (mk_db (128 ||| w) s.1 s.2.1 8).2 < mk_abs (mk_db w s.1 s.2.1 8).2 from mi_nle_lt c_33)], rfl⟩
    · refine mi_blk okX4_isJoined 1 (pc' := 12) (lv' := [(0, .ref a), (1, .int g), (2, .int w)]) (st' := [.int 0]) rfl ?_
      exact mi_ret_i okX4_isJoined rfl rfl rfl ⟨by rw [mk_jn, if_pos c_1, if_neg c_8], rfl⟩
set_option maxHeartbeats 4000000 in
set_option maxRecDepth 100000 in
theorem l_pb {X : mi_X} {h : mi_H} {a : Nat} {s : mk_S} (hE : 6 ≤ a) (ha : a < h.1) {t : Int32} {Q : Option Value → mi_H → Prop} (hQ : Q none (mi_set h a (mk_c (mk_pb t s 8)))) : ∀ (n i : Nat), i + n = 8 → mi_W pP X kX4_putBits 1 0 0 4 [(2, .int (mk_m i)), (0, .ref a), (1, .int t)] [] (mi_set h a (mk_c (mk_pb t s i))) Q := by
  intro n
  induction n with
  | zero =>
    intro i hi
    obtain rfl : i = 8 := by omega
    refine mi_blk okX4_putBits 1 (pc' := 5) (lv' := [(2, .int (mk_m 8)), (0, .ref a), (1, .int t)]) (st' := [.int (mk_m 8)]) rfl ?_
    refine mi_if_le okX4_putBits rfl rfl (fun c_5 => ?_) (fun c_5 => absurd (by decide) c_5)
    exact mi_ret_v okX4_putBits rfl rfl hQ
  | succ n ih =>
    intro i hi
    refine mi_blk okX4_putBits 1 (pc' := 5) (lv' := [(2, .int (mk_m i)), (0, .ref a), (1, .int t)]) (st' := [.int (mk_m i)]) rfl ?_
    refine mi_if_le okX4_putBits rfl rfl (fun c_5 => absurd c_5 (mk_m_pos (by omega))) (fun c_5 => ?_)
    refine mi_blk okX4_putBits 3 (pc' := 11) (lv' := [(2, .int (mk_m i)), (0, .ref a), (1, .int t)]) (st' := [.int (t &&& (mk_m i))]) rfl ?_
    refine mi_if_eq okX4_putBits rfl rfl (fun c_11 => ?_) (fun c_11 => ?_)
    · refine mi_blk okX4_putBits 2 (pc' := 35) (lv' := [(2, .int (mk_m i)), (0, .ref a), (1, .int t)]) (st' := [.ref a, .ref a]) rfl ?_
      refine mi_getf okX4_putBits rfl fg_RX4_13 hE ha mi_set_self (v := .int ((mk_pb t s i).2.1)) rfl ?_
      refine mi_blk okX4_putBits 1 (pc' := 39) (lv' := [(2, .int (mk_m i)), (0, .ref a), (1, .int t)]) (st' := [.ref a, .int ((mk_pb t s i).2.1), .ref a]) rfl ?_
      refine mi_getf okX4_putBits rfl fg_RX4_7 hE ha mi_set_self (v := .int ((mk_pb t s i).1)) rfl ?_
      refine mi_blk okX4_putBits 1 (pc' := 43) (lv' := [(2, .int (mk_m i)), (0, .ref a), (1, .int t)]) (st' := [.int (((mk_pb t s i).2.1) + ((mk_pb t s i).1)), .ref a]) rfl ?_
      refine mi_putf' okX4_putBits rfl fd_RX4_13 hE ha mi_set_self (fs' := [.int ((mk_pb t s i).1), .int (((mk_pb t s i).2.1) + ((mk_pb t s i).1)), .int ((mk_pb t s i).2.2.1), .int ((mk_pb t s i).2.2.2)]) rfl (Nat.le_of_ble_eq_true rfl) rfl rfl ?_
      rw [mi_set_set]
      refine mi_blk okX4_putBits 2 (pc' := 48) (lv' := [(2, .int (mk_m i)), (0, .ref a), (1, .int t)]) (st' := [.ref a, .ref a]) rfl ?_
      refine mi_getf okX4_putBits rfl fg_RX4_19 hE ha mi_set_self (v := .int ((mk_pb t s i).2.2.2)) rfl ?_
      refine mi_blk okX4_putBits 1 (pc' := 52) (lv' := [(2, .int (mk_m i)), (0, .ref a), (1, .int t)]) (st' := [.ref a, .int ((mk_pb t s i).2.2.2), .ref a]) rfl ?_
      refine mi_getf okX4_putBits rfl fg_RX4_13 hE ha mi_set_self (v := .int (((mk_pb t s i).2.1) + ((mk_pb t s i).1))) rfl ?_
      refine mi_abs okX4_putBits rfl mm_RX4_43 ms_abs mz_Math mc_abs (by decide) (Nat.le_of_ble_eq_true rfl) ?_
      refine mi_max okX4_putBits rfl mm_RX4_48 ms_max mz_Math mc_max (by decide) (Nat.le_of_ble_eq_true rfl) ?_
      refine mi_putf' okX4_putBits rfl fd_RX4_19 hE ha mi_set_self (fs' := [.int ((mk_pb t s i).1), .int (((mk_pb t s i).2.1) + ((mk_pb t s i).1)), .int ((mk_pb t s i).2.2.1), .int (if ((mk_pb t s i).2.2.2) < (if 0 ≤ ((mk_pb t s i).2.1) + ((mk_pb t s i).1) then ((mk_pb t s i).2.1) + ((mk_pb t s i).1) else 0 - (((mk_pb t s i).2.1) + ((mk_pb t s i).1))) then (if 0 ≤ ((mk_pb t s i).2.1) + ((mk_pb t s i).1) then ((mk_pb t s i).2.1) + ((mk_pb t s i).1) else 0 - (((mk_pb t s i).2.1) + ((mk_pb t s i).1))) else (mk_pb t s i).2.2.2)]) rfl (Nat.le_of_ble_eq_true rfl) rfl rfl ?_
      rw [mi_set_set]
      refine mi_blk okX4_putBits 5 (pc' := 4) (lv' := [(2, .int ((mk_m i) >>> (1 &&& 31))), (0, .ref a), (1, .int t)]) (st' := []) rfl ?_
      rw [mk_m_half (by omega)]
      have e1 : mk_pb t s (i + 1) = ((mk_pb t s i).1, (mk_pb t s i).2.1 + (mk_pb t s i).1, (mk_pb t s i).2.2.1, mk_max (mk_pb t s i).2.2.2 (mk_abs ((mk_pb t s i).2.1 + (mk_pb t s i).1))) := by rw [mk_pb, mk_bit, if_pos c_11]
      have w := ih (i + 1) (by omega)
      rw [e1] at w
      exact w.locs (by simp)
    · refine mi_blk okX4_putBits 2 (pc' := 16) (lv' := [(2, .int (mk_m i)), (0, .ref a), (1, .int t)]) (st' := [.ref a, .ref a]) rfl ?_
      refine mi_getf okX4_putBits rfl fg_RX4_7 hE ha mi_set_self (v := .int ((mk_pb t s i).1)) rfl ?_
      refine mi_blk okX4_putBits 1 (pc' := 20) (lv' := [(2, .int (mk_m i)), (0, .ref a), (1, .int t)]) (st' := [.int (-((mk_pb t s i).1)), .ref a]) rfl ?_
      refine mi_putf' okX4_putBits rfl fd_RX4_7 hE ha mi_set_self (fs' := [.int (-((mk_pb t s i).1)), .int ((mk_pb t s i).2.1), .int ((mk_pb t s i).2.2.1), .int ((mk_pb t s i).2.2.2)]) rfl (Nat.le_of_ble_eq_true rfl) rfl rfl ?_
      rw [mi_set_set]
      refine mi_blk okX4_putBits 2 (pc' := 25) (lv' := [(2, .int (mk_m i)), (0, .ref a), (1, .int t)]) (st' := [.ref a, .ref a]) rfl ?_
      refine mi_getf okX4_putBits rfl fg_RX4_16 hE ha mi_set_self (v := .int ((mk_pb t s i).2.2.1)) rfl ?_
      refine mi_blk okX4_putBits 2 (pc' := 30) (lv' := [(2, .int (mk_m i)), (0, .ref a), (1, .int t)]) (st' := [.int (((mk_pb t s i).2.2.1) + 1), .ref a]) rfl ?_
      refine mi_putf' okX4_putBits rfl fd_RX4_16 hE ha mi_set_self (fs' := [.int (-((mk_pb t s i).1)), .int ((mk_pb t s i).2.1), .int (((mk_pb t s i).2.2.1) + 1), .int ((mk_pb t s i).2.2.2)]) rfl (Nat.le_of_ble_eq_true rfl) rfl rfl ?_
      rw [mi_set_set]
      refine mi_blk okX4_putBits 2 (pc' := 35) (lv' := [(2, .int (mk_m i)), (0, .ref a), (1, .int t)]) (st' := [.ref a, .ref a]) rfl ?_
      refine mi_getf okX4_putBits rfl fg_RX4_13 hE ha mi_set_self (v := .int ((mk_pb t s i).2.1)) rfl ?_
      refine mi_blk okX4_putBits 1 (pc' := 39) (lv' := [(2, .int (mk_m i)), (0, .ref a), (1, .int t)]) (st' := [.ref a, .int ((mk_pb t s i).2.1), .ref a]) rfl ?_
      refine mi_getf okX4_putBits rfl fg_RX4_7 hE ha mi_set_self (v := .int (-((mk_pb t s i).1))) rfl ?_
      refine mi_blk okX4_putBits 1 (pc' := 43) (lv' := [(2, .int (mk_m i)), (0, .ref a), (1, .int t)]) (st' := [.int (((mk_pb t s i).2.1) + (-((mk_pb t s i).1))), .ref a]) rfl ?_
      refine mi_putf' okX4_putBits rfl fd_RX4_13 hE ha mi_set_self (fs' := [.int (-((mk_pb t s i).1)), .int (((mk_pb t s i).2.1) + (-((mk_pb t s i).1))), .int (((mk_pb t s i).2.2.1) + 1), .int ((mk_pb t s i).2.2.2)]) rfl (Nat.le_of_ble_eq_true rfl) rfl rfl ?_
      rw [mi_set_set]
      refine mi_blk okX4_putBits 2 (pc' := 48) (lv' := [(2, .int (mk_m i)), (0, .ref a), (1, .int t)]) (st' := [.ref a, .ref a]) rfl ?_
      refine mi_getf okX4_putBits rfl fg_RX4_19 hE ha mi_set_self (v := .int ((mk_pb t s i).2.2.2)) rfl ?_
      refine mi_blk okX4_putBits 1 (pc' := 52) (lv' := [(2, .int (mk_m i)), (0, .ref a), (1, .int t)]) (st' := [.ref a, .int ((mk_pb t s i).2.2.2), .ref a]) rfl ?_
      refine mi_getf okX4_putBits rfl fg_RX4_13 hE ha mi_set_self (v := .int (((mk_pb t s i).2.1) + (-((mk_pb t s i).1)))) rfl ?_
      refine mi_abs okX4_putBits rfl mm_RX4_43 ms_abs mz_Math mc_abs (by decide) (Nat.le_of_ble_eq_true rfl) ?_
      refine mi_max okX4_putBits rfl mm_RX4_48 ms_max mz_Math mc_max (by decide) (Nat.le_of_ble_eq_true rfl) ?_
      refine mi_putf' okX4_putBits rfl fd_RX4_19 hE ha mi_set_self (fs' := [.int (-((mk_pb t s i).1)), .int (((mk_pb t s i).2.1) + (-((mk_pb t s i).1))), .int (((mk_pb t s i).2.2.1) + 1), .int (if ((mk_pb t s i).2.2.2) < (if 0 ≤ ((mk_pb t s i).2.1) + (-((mk_pb t s i).1)) then ((mk_pb t s i).2.1) + (-((mk_pb t s i).1)) else 0 - (((mk_pb t s i).2.1) + (-((mk_pb t s i).1)))) then (if 0 ≤ ((mk_pb t s i).2.1) + (-((mk_pb t s i).1)) then ((mk_pb t s i).2.1) + (-((mk_pb t s i).1)) else 0 - (((mk_pb t s i).2.1) + (-((mk_pb t s i).1)))) else (mk_pb t s i).2.2.2)]) rfl (Nat.le_of_ble_eq_true rfl) rfl rfl ?_
      rw [mi_set_set]
      refine mi_blk okX4_putBits 5 (pc' := 4) (lv' := [(2, .int ((mk_m i) >>> (1 &&& 31))), (0, .ref a), (1, .int t)]) (st' := []) rfl ?_
      rw [mk_m_half (by omega)]
      have e1 : mk_pb t s (i + 1) = (-(mk_pb t s i).1, (mk_pb t s i).2.1 + -(mk_pb t s i).1, (mk_pb t s i).2.2.1 + 1, mk_max (mk_pb t s i).2.2.2 (mk_abs ((mk_pb t s i).2.1 + -(mk_pb t s i).1))) := by rw [mk_pb, mk_bit, if_neg c_11]
      have w := ih (i + 1) (by omega)
      rw [e1] at w
      exact w.locs (by simp)
set_option maxHeartbeats 4000000 in
set_option maxRecDepth 100000 in
theorem c_putBits {X : mi_X} {h : mi_H} {a : Nat} {s : mk_S} (hE : 6 ≤ a) (ha : a < h.1) (hc : h.2 a = mk_c s) {t : Int32} : mi_S pP X kX4_putBits 1 [.ref a, .int t] h 0 0 (fun r h1 => r = none ∧ h1 = mi_set h a (mk_c (mk_pb t s 8))) := by
  refine enX4_putBits (Nat.le_of_ble_eq_true rfl) ?_
  refine mi_blk okX4_putBits 2 (pc' := 4) (lv' := [(2, .int 128), (0, .ref a), (1, .int t)]) (st' := []) rfl ?_
  exact (l_pb (s := s) (t := t) hE ha ⟨rfl, rfl⟩ 8 0 rfl).heap0 hc
set_option maxHeartbeats 4000000 in
set_option maxRecDepth 100000 in
theorem l_mk {X : mi_X} (hX : mi_X4 X) {h : mi_H} {a b : Nat} {v : Int64} {e : Int32} (hE : 6 ≤ a) (ha : a < h.1) (hB : 6 ≤ b) (hb : b < h.1) (hcb : h.2 b = bl_c v e) (hne : b ≠ a) {Q : Option Value → mi_H → Prop} (hQ : Q none (mi_set h a (mk_c ((mk_all v 16).1)))) : ∀ (n p : Nat), p + n = 16 → mi_W pP X kX4_mark 2 0 0 24 [(3, .int (nI p)), (2, .int ((mk_all v p).2)), (0, .ref a), (1, .ref b)] [] (mi_set h a (mk_c ((mk_all v p).1))) Q := by
  intro n
  induction n with
  | zero =>
    intro p hp
    obtain rfl : p = 16 := by omega
    refine mi_blk okX4_mark 2 (pc' := 27) (lv' := [(3, .int (nI 16)), (2, .int ((mk_all v 16).2)), (0, .ref a), (1, .ref b)]) (st' := [.int 16, .int (nI 16)]) rfl ?_
    refine mi_ic_ge okX4_mark rfl rfl (fun c_27 => ?_) (fun c_27 => absurd (by decide) c_27)
    exact mi_ret_v okX4_mark rfl rfl hQ
  | succ n ih =>
    intro p hp
    refine mi_blk okX4_mark 2 (pc' := 27) (lv' := [(3, .int (nI p)), (2, .int ((mk_all v p).2)), (0, .ref a), (1, .ref b)]) (st' := [.int 16, .int (nI p)]) rfl ?_
    refine mi_ic_ge okX4_mark rfl rfl (fun c_27 => absurd c_27 (nI_ge (a := p) (b := 16) (by omega) (by decide))) (fun c_27 => ?_)
    refine mi_gets okX4_mark (a := 4) rfl (List.mem_of_getElem? (i := 3) rfl) sl_RX4_24 ?_
    refine mi_blk okX4_mark 2 (pc' := 35) (lv' := [(3, .int (nI p)), (2, .int ((mk_all v p).2)), (0, .ref a), (1, .ref b)]) (st' := [.int (nI p), .ref b, .ref 4]) rfl ?_
    refine mi_callV okX4_mark (mc := 0) (ms := 0) (mc' := 0) (ms' := 0) (b := b) (As := [.int (nI p)]) (st := [.ref 4]) rfl cv_RX4_28 rfl (by decide) hB hb ((mi_set_ne hne).trans hcb) rfl (Nat.le_of_ble_eq_true rfl) (c_valueAt (h := mi_set h a (mk_c ((mk_all v p).1))) (v := v) (e := e) hB hb ((mi_set_ne hne).trans hcb)) (fun r h1 q => ?_)
    obtain ⟨rfl, e9⟩ := q; have e9 := e9.symm; subst e9
    change mi_W pP X kX4_mark 2 0 0 38 [(3, .int (nI p)), (2, .int ((mk_all v p).2)), (0, .ref a), (1, .ref b)] [.int (bl_at v (nI p)), .ref 4] (mi_set h a (mk_c ((mk_all v p).1))) _
    refine mi_blk okX4_mark 2 (pc' := 41) (lv' := [(3, .int (nI p)), (2, .int ((mk_all v p).2)), (0, .ref a), (1, .ref b)]) (st' := [.int ((bl_at v (nI p)) &&& 15), .ref 4]) rfl ?_
    refine mi_xld okX4_mark (a := 4) (i := (bl_at v (nI p)) &&& 15) rfl (by decide) (by rw [hX.1]; exact i32_in16 _) ?_
    rw [show (X 4).2 (bl_at v (nI p) &&& 15).toNatClampNeg = mk_w v p from hX.2 _ (i32_clamp16 _)]
    refine mi_blk okX4_mark 5 (pc' := 49) (lv' := [(4, .int (mk_w v p)), (3, .int (nI p)), (2, .int ((mk_all v p).2)), (0, .ref a), (1, .ref b)]) (st' := [.int (mk_w v p), .int ((mk_all v p).2), .ref a, .ref a]) rfl ?_
    refine mi_callV okX4_mark (mc := 0) (ms := 0) (mc' := 0) (ms' := 0) (b := a) (As := [.int ((mk_all v p).2), .int (mk_w v p)]) (st := [.ref a]) rfl cv_RX4_32 rfl (by decide) hE ha mi_set_self rfl (Nat.le_of_ble_eq_true rfl) (c_isJoined (h := mi_set h a (mk_c ((mk_all v p).1))) (s := (mk_all v p).1) hE ha mi_set_self) (fun r h1 q => ?_)
    obtain ⟨rfl, e9⟩ := q; have e9 := e9.symm; subst e9
    change mi_W pP X kX4_mark 2 0 0 52 [(4, .int (mk_w v p)), (3, .int (nI p)), (2, .int ((mk_all v p).2)), (0, .ref a), (1, .ref b)] [.int (mk_jn (mk_all v p).1.1 (mk_all v p).1.2.1 ((mk_all v p).2) (mk_w v p)), .ref a] (mi_set h a (mk_c ((mk_all v p).1))) _
    refine mi_if_eq okX4_mark rfl rfl (fun c_52 => ?_) (fun c_52 => ?_)
    · refine mi_blk okX4_mark 1 (pc' := 66) (lv' := [(4, .int (mk_w v p)), (3, .int (nI p)), (2, .int ((mk_all v p).2)), (0, .ref a), (1, .ref b)]) (st' := [.int (mk_w v p), .ref a]) rfl ?_
      refine mi_callV okX4_mark (mc := 0) (ms := 0) (mc' := 0) (ms' := 0) (b := a) (As := [.int (mk_w v p)]) (st := []) rfl cv_RX4_36 rfl (by decide) hE ha mi_set_self rfl (Nat.le_of_ble_eq_true rfl) (c_putBits (h := mi_set h a (mk_c ((mk_all v p).1))) (s := (mk_all v p).1) hE ha mi_set_self) (fun r h1 q => ?_)
      obtain ⟨rfl, e9⟩ := q; have e9 := e9.symm; subst e9
      change mi_W pP X kX4_mark 2 0 0 69 [(4, .int (mk_w v p)), (3, .int (nI p)), (2, .int ((mk_all v p).2)), (0, .ref a), (1, .ref b)] [] (mi_set (mi_set h a (mk_c ((mk_all v p).1))) a (mk_c (mk_pb (mk_w v p) (mk_all v p).1 8))) _
      rw [mi_set_set]
      refine mi_blk okX4_mark 6 (pc' := 24) (lv' := [(3, .int ((nI p) + 1)), (2, .int ((mk_w v p) &&& 1)), (4, .int (mk_w v p)), (0, .ref a), (1, .ref b)]) (st' := []) rfl ?_
      rw [← nI_succ]
      have e1 : mk_all v (p + 1) = (mk_pb (mk_w v p) (mk_all v p).1 8, mk_w v p &&& 1) := by rw [mk_all, if_pos c_52]
      have w := ih (p + 1) (by omega)
      rw [e1] at w
      exact w.locs (by simp)
    · refine mi_blk okX4_mark 4 (pc' := 66) (lv' := [(4, .int (mk_w v p)), (3, .int (nI p)), (2, .int ((mk_all v p).2)), (0, .ref a), (1, .ref b)]) (st' := [.int (128 ||| (mk_w v p)), .ref a]) rfl ?_
      refine mi_callV okX4_mark (mc := 0) (ms := 0) (mc' := 0) (ms' := 0) (b := a) (As := [.int (128 ||| (mk_w v p))]) (st := []) rfl cv_RX4_36 rfl (by decide) hE ha mi_set_self rfl (Nat.le_of_ble_eq_true rfl) (c_putBits (h := mi_set h a (mk_c ((mk_all v p).1))) (s := (mk_all v p).1) hE ha mi_set_self) (fun r h1 q => ?_)
      obtain ⟨rfl, e9⟩ := q; have e9 := e9.symm; subst e9
      change mi_W pP X kX4_mark 2 0 0 69 [(4, .int (mk_w v p)), (3, .int (nI p)), (2, .int ((mk_all v p).2)), (0, .ref a), (1, .ref b)] [] (mi_set (mi_set h a (mk_c ((mk_all v p).1))) a (mk_c (mk_pb (128 ||| (mk_w v p)) (mk_all v p).1 8))) _
      rw [mi_set_set]
      refine mi_blk okX4_mark 6 (pc' := 24) (lv' := [(3, .int ((nI p) + 1)), (2, .int ((mk_w v p) &&& 1)), (4, .int (mk_w v p)), (0, .ref a), (1, .ref b)]) (st' := []) rfl ?_
      rw [← nI_succ]
      have e1 : mk_all v (p + 1) = (mk_pb (128 ||| mk_w v p) (mk_all v p).1 8, mk_w v p &&& 1) := by rw [mk_all, if_neg c_52]
      have w := ih (p + 1) (by omega)
      rw [e1] at w
      exact w.locs (by simp)
set_option maxHeartbeats 4000000 in
set_option maxRecDepth 100000 in
theorem c_mark {X : mi_X} (hX : mi_X4 X) {s : mk_S} {h : mi_H} {a b : Nat} {v : Int64} {e : Int32} (hE : 6 ≤ a) (ha : a < h.1) (hB : 6 ≤ b) (hb : b < h.1) (hcb : h.2 b = bl_c v e) (hne : b ≠ a) (hc : h.2 a = mk_c s) : mi_S pP X kX4_mark 2 [.ref a, .ref b] h 0 0 (fun r h1 => r = none ∧ h1 = mi_set h a (mk_c (mk_all v 16).1)) := by
  refine enX4_mark (Nat.le_of_ble_eq_true rfl) ?_
  refine mi_blk okX4_mark 2 (pc' := 2) (lv' := [(0, .ref a), (1, .ref b)]) (st' := [.int 1, .ref a]) rfl ?_
  refine mi_putf' okX4_mark rfl fd_RX4_7 hE ha hc (fs' := [.int 1, .int s.2.1, .int s.2.2.1, .int s.2.2.2]) rfl (Nat.le_of_ble_eq_true rfl) rfl rfl ?_
  refine mi_blk okX4_mark 2 (pc' := 7) (lv' := [(0, .ref a), (1, .ref b)]) (st' := [.int 0, .ref a]) rfl ?_
  refine mi_putf' okX4_mark rfl fd_RX4_13 hE ha mi_set_self (fs' := [.int 1, .int 0, .int s.2.2.1, .int s.2.2.2]) rfl (Nat.le_of_ble_eq_true rfl) rfl rfl ?_
  rw [mi_set_set]
  refine mi_blk okX4_mark 2 (pc' := 12) (lv' := [(0, .ref a), (1, .ref b)]) (st' := [.int 0, .ref a]) rfl ?_
  refine mi_putf' okX4_mark rfl fd_RX4_16 hE ha mi_set_self (fs' := [.int 1, .int 0, .int 0, .int s.2.2.2]) rfl (Nat.le_of_ble_eq_true rfl) rfl rfl ?_
  rw [mi_set_set]
  refine mi_blk okX4_mark 2 (pc' := 17) (lv' := [(0, .ref a), (1, .ref b)]) (st' := [.int 0, .ref a]) rfl ?_
  refine mi_putf' okX4_mark rfl fd_RX4_19 hE ha mi_set_self (fs' := [.int 1, .int 0, .int 0, .int 0]) rfl (Nat.le_of_ble_eq_true rfl) rfl rfl ?_
  rw [mi_set_set]
  refine mi_blk okX4_mark 4 (pc' := 24) (lv' := [(3, .int 0), (2, .int 0), (0, .ref a), (1, .ref b)]) (st' := []) rfl ?_
  exact l_mk (v := v) (e := e) hX hE ha hB hb hcb hne ⟨rfl, rfl⟩ 16 0 rfl
