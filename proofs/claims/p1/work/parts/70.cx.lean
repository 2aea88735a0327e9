-- refused calls
/-- a thing of the kind ce0 is made and thrown, nothing else -/
def xq (ce0 : Nat) (h : mi_H) : Nat → Nat → mi_H → Prop := fun ce a h1 => ce = ce0 ∧ h1 = mi_psh h (.inr (ce0, []))
theorem no_h {k : Nat} (h : pP.2.2.2.2.2.2.2.1 k = []) {pc : Nat} : ∀ x ∈ tableOf (pP.2.2.2.2.2.2.2.1 k), covers x pc = false := by
  rw [h]
  intro x hx
  cases hx
theorem i_nlt {x y : Int32} (h : y ≤ x) : ¬ x < y := Int32.not_lt.mpr h
theorem i_nle {x y : Int32} (h : y < x) : ¬ x ≤ y := Int32.not_le.mpr h
set_option maxHeartbeats 4000000 in
set_option maxRecDepth 100000 in
theorem c_isSector_x {X : mi_X} {h : mi_H} {x : Int32} (hx : x < 0 ∨ (240 : Int32) ≤ x) : mi_S pP X kX8_isSector 0 [.int x] h 0 0 (fun r h1 => r = some (.int 0) ∧ h1 = h) := by
  refine enX8_isSector (Nat.le_of_ble_eq_true rfl) ?_
  refine mi_blk okX8_isSector 1 (pc' := 1) (lv' := [(0, .int x)]) (st' := [.int x]) rfl ?_
  refine mi_if_lt okX8_isSector rfl rfl (fun c_1 => ?_) (fun c_1 => ?_)
  · refine mi_blk okX8_isSector 1 (pc' := 16) (lv' := [(0, .int x)]) (st' := [.int 0]) rfl ?_
    exact mi_ret_i okX8_isSector rfl rfl rfl ⟨rfl, rfl⟩
  · refine mi_blk okX8_isSector 2 (pc' := 8) (lv' := [(0, .int x)]) (st' := [.int 240, .int x]) rfl ?_
    refine mi_ic_ge okX8_isSector rfl rfl (fun c_8 => ?_) (fun c_8 => absurd (hx.resolve_left c_1) c_8)
    refine mi_blk okX8_isSector 1 (pc' := 16) (lv' := [(0, .int x)]) (st' := [.int 0]) rfl ?_
    exact mi_ret_i okX8_isSector rfl rfl rfl ⟨rfl, rfl⟩
set_option maxHeartbeats 4000000 in
set_option maxRecDepth 100000 in
theorem x_checkSector {X : mi_X} {h : mi_H} (hE : 6 ≤ h.1) {x : Int32} (hx : x < 0 ∨ (240 : Int32) ≤ x) : mi_SX pP X kX8_checkSector 6 [.int x] h 1 6 (fun _ _ => False) (xq 12 h) := by
  refine exX8_checkSector (Nat.le_of_ble_eq_true rfl) ?_
  refine mi_blk okX8_checkSector 1 (pc' := 1) (lv' := [(0, .int x)]) (st' := [.int x]) rfl ?_
  refine mi_callS okX8_checkSector (mc := 1) (ms := 6) (mc' := 0) (ms' := 0) (As := [.int x]) (st := []) rfl cs_RX8_136 rfl (by decide) (Nat.le_of_ble_eq_true rfl) (c_isSector_x hx) (fun r h1 q => ?_)
  obtain ⟨rfl, e9⟩ := q; have e9 := e9.symm; subst e9
  change mi_WX _ pP X kX8_checkSector 6 1 6 4 [(0, .int x)] [.int 0] h _
  refine mi_if_ne okX8_checkSector rfl rfl (fun c_4 => absurd (by decide) c_4) (fun c_4 => ?_)
  refine mi_mkxW okX8_checkSector (mc := 0) (ms := 0) rfl rfl rfl rfl xw_354 (by decide) (Nat.le_of_ble_eq_true rfl) ?_
  exact mi_athrow okX8_checkSector rfl (mi_TX.out ⟨hE, Nat.lt_succ_self _, mi_psh_self⟩ ⟨rfl, rfl⟩ (no_h rfl))
set_option maxHeartbeats 4000000 in
set_option maxRecDepth 100000 in
theorem x_checkFile {X : mi_X} {h : mi_H} (hE : 6 ≤ h.1) {x : Int32} (hx : x < 0 ∨ (10 : Int32) ≤ x) : mi_SX pP X kX8_checkFile 6 [.int x] h 1 6 (fun _ _ => False) (xq 12 h) := by
  refine exX8_checkFile (Nat.le_of_ble_eq_true rfl) ?_
  refine mi_blk okX8_checkFile 1 (pc' := 1) (lv' := [(0, .int x)]) (st' := [.int x]) rfl ?_
  refine mi_if_lt okX8_checkFile rfl rfl (fun c_1 => ?_) (fun c_1 => ?_)
  · refine mi_mkxW okX8_checkFile (mc := 0) (ms := 0) rfl rfl rfl rfl xw_356 (by decide) (Nat.le_of_ble_eq_true rfl) ?_
    exact mi_athrow okX8_checkFile rfl (mi_TX.out ⟨hE, Nat.lt_succ_self _, mi_psh_self⟩ ⟨rfl, rfl⟩ (no_h rfl))
  · refine mi_blk okX8_checkFile 2 (pc' := 7) (lv' := [(0, .int x)]) (st' := [.int 10, .int x]) rfl ?_
    refine mi_ic_lt okX8_checkFile rfl rfl (fun c_7 => absurd c_7 (i_nlt (hx.resolve_left c_1))) (fun c_7 => ?_)
    refine mi_mkxW okX8_checkFile (mc := 0) (ms := 0) rfl rfl rfl rfl xw_356 (by decide) (Nat.le_of_ble_eq_true rfl) ?_
    exact mi_athrow okX8_checkFile rfl (mi_TX.out ⟨hE, Nat.lt_succ_self _, mi_psh_self⟩ ⟨rfl, rfl⟩ (no_h rfl))
set_option maxHeartbeats 4000000 in
set_option maxRecDepth 100000 in
theorem x_trackAt {X : mi_X} {h : mi_H} {B : Nat} (hw : ph_W B ph_0 (fun _ _ => 0) (fun _ _ => 0) h) {x : Int32} : mi_SX pP X kX8_trackAt 6 [.ref B, .int x] h 1 6 (fun _ _ => False) (xq 12 h) := by
  refine exX8_trackAt (Nat.le_of_ble_eq_true rfl) ?_
  refine mi_blk okX8_trackAt 1 (pc' := 1) (lv' := [(0, .ref B), (1, .int x)]) (st' := [.int x]) rfl ?_
  refine mi_if_lt okX8_trackAt rfl rfl (fun c_1 => ?_) (fun c_1 => ?_)
  · refine mi_mkxW okX8_trackAt (mc := 0) (ms := 0) rfl rfl rfl rfl xw_358 (by decide) (Nat.le_of_ble_eq_true rfl) ?_
    exact mi_athrow okX8_trackAt rfl (mi_TX.out ⟨(show 6 ≤ h.1 by have := hw.z; omega), Nat.lt_succ_self _, mi_psh_self⟩ ⟨rfl, rfl⟩ (no_h rfl))
  · refine mi_blk okX8_trackAt 2 (pc' := 6) (lv' := [(0, .ref B), (1, .int x)]) (st' := [.ref B, .int x]) rfl ?_
    refine mi_getf okX8_trackAt rfl fg_RX8_46 (show 6 ≤ _ by have := hw.z; omega) (show _ < h.1 by have := hw.z; omega) hw.ph (v := .int 0) rfl ?_
    refine mi_ic_lt okX8_trackAt rfl rfl (fun c_9 => absurd c_9 c_1) (fun c_9 => ?_)
    refine mi_mkxW okX8_trackAt (mc := 0) (ms := 0) rfl rfl rfl rfl xw_358 (by decide) (Nat.le_of_ble_eq_true rfl) ?_
    exact mi_athrow okX8_trackAt rfl (mi_TX.out ⟨(show 6 ≤ h.1 by have := hw.z; omega), Nat.lt_succ_self _, mi_psh_self⟩ ⟨rfl, rfl⟩ (no_h rfl))
set_option maxHeartbeats 4000000 in
set_option maxRecDepth 100000 in
theorem x_write {X : mi_X} {h : mi_H} {B : Nat} (hw : ph_W B ph_0 (fun _ _ => 0) (fun _ _ => 0) h) {x : Int32} {n : Int64} : mi_SX pP X kX8_write 7 [.ref B, .int x, .long n] h 1 6 (fun _ _ => False) (xq 12 h) := by
  refine exX8_write (Nat.le_of_ble_eq_true rfl) ?_
  refine mi_blk okX8_write 2 (pc' := 2) (lv' := [(0, .ref B), (1, .int x), (2, .long n)]) (st' := [.int x, .ref B]) rfl ?_
  exact mi_callVX okX8_write (mc := 0) (ms := 0) (mc' := 1) (ms' := 6) (b := B) (As := [.int x]) (st := []) rfl cv_RX8_91 rfl (by decide) (show 6 ≤ _ by have := hw.z; omega) (show _ < h.1 by have := hw.z; omega) hw.ph rfl (Nat.le_of_ble_eq_true rfl) (x_trackAt hw) (fun r h1 q => q.elim) (fun ce a h1 c1 q => mi_TX.out c1 q (no_h rfl))
set_option maxHeartbeats 4000000 in
set_option maxRecDepth 100000 in
theorem x_starve {X : mi_X} {h : mi_H} {B : Nat} (hw : ph_W B ph_0 (fun _ _ => 0) (fun _ _ => 0) h) {x : Int32} : mi_SX pP X kX8_starve 7 [.ref B, .int x] h 1 6 (fun _ _ => False) (xq 12 h) := by
  refine exX8_starve (Nat.le_of_ble_eq_true rfl) ?_
  refine mi_blk okX8_starve 2 (pc' := 2) (lv' := [(0, .ref B), (1, .int x)]) (st' := [.int x, .ref B]) rfl ?_
  exact mi_callVX okX8_starve (mc := 0) (ms := 0) (mc' := 1) (ms' := 6) (b := B) (As := [.int x]) (st := []) rfl cv_RX8_91 rfl (by decide) (show 6 ≤ _ by have := hw.z; omega) (show _ < h.1 by have := hw.z; omega) hw.ph rfl (Nat.le_of_ble_eq_true rfl) (x_trackAt hw) (fun r h1 q => q.elim) (fun ce a h1 c1 q => mi_TX.out c1 q (no_h rfl))
set_option maxHeartbeats 4000000 in
set_option maxRecDepth 100000 in
theorem x_close {X : mi_X} {h : mi_H} {B : Nat} (hw : ph_W B ph_0 (fun _ _ => 0) (fun _ _ => 0) h) {x : Int32} : mi_SX pP X kX8_close 7 [.ref B, .int x] h 1 6 (fun _ _ => False) (xq 12 h) := by
  refine exX8_close (Nat.le_of_ble_eq_true rfl) ?_
  refine mi_blk okX8_close 2 (pc' := 2) (lv' := [(0, .ref B), (1, .int x)]) (st' := [.int x, .ref B]) rfl ?_
  exact mi_callVX okX8_close (mc := 0) (ms := 0) (mc' := 1) (ms' := 6) (b := B) (As := [.int x]) (st := []) rfl cv_RX8_91 rfl (by decide) (show 6 ≤ _ by have := hw.z; omega) (show _ < h.1 by have := hw.z; omega) hw.ph rfl (Nat.le_of_ble_eq_true rfl) (x_trackAt hw) (fun r h1 q => q.elim) (fun ce a h1 c1 q => mi_TX.out c1 q (no_h rfl))
set_option maxHeartbeats 4000000 in
set_option maxRecDepth 100000 in
theorem x_ofTrack {X : mi_X} {h : mi_H} {B : Nat} (hw : ph_W B ph_0 (fun _ _ => 0) (fun _ _ => 0) h) {x y : Int32} : mi_SX pP X kX8_ofTrack 7 [.ref B, .int x, .int y] h 1 6 (fun _ _ => False) (xq 12 h) := by
  refine exX8_ofTrack (Nat.le_of_ble_eq_true rfl) ?_
  refine mi_blk okX8_ofTrack 2 (pc' := 2) (lv' := [(0, .ref B), (1, .int x), (2, .int y)]) (st' := [.int x, .ref B]) rfl ?_
  exact mi_callVX okX8_ofTrack (mc := 0) (ms := 0) (mc' := 1) (ms' := 6) (b := B) (As := [.int x]) (st := []) rfl cv_RX8_91 rfl (by decide) (show 6 ≤ _ by have := hw.z; omega) (show _ < h.1 by have := hw.z; omega) hw.ph rfl (Nat.le_of_ble_eq_true rfl) (x_trackAt hw) (fun r h1 q => q.elim) (fun ce a h1 c1 q => mi_TX.out c1 q (no_h rfl))
set_option maxHeartbeats 4000000 in
set_option maxRecDepth 100000 in
theorem x_read_s {X : mi_X} {h : mi_H} {B : Nat} (hw : ph_W B ph_0 (fun _ _ => 0) (fun _ _ => 0) h) {x : Int32} (hx : x < 0 ∨ (240 : Int32) ≤ x) : mi_SX pP X kX8_read 7 [.ref B, .int x] h 1 6 (fun _ _ => False) (xq 12 h) := by
  refine exX8_read (Nat.le_of_ble_eq_true rfl) ?_
  refine mi_blk okX8_read 1 (pc' := 1) (lv' := [(0, .ref B), (1, .int x)]) (st' := [.int x]) rfl ?_
  exact mi_callSX okX8_read (mc := 0) (ms := 0) (mc' := 1) (ms' := 6) (As := [.int x]) (st := []) rfl cs_RX8_188 rfl (by decide) (Nat.le_of_ble_eq_true rfl) (x_checkSector (show 6 ≤ h.1 by have := hw.z; omega) hx) (fun r h1 q => q.elim) (fun ce a h1 c1 q => mi_TX.out c1 q (no_h rfl))
set_option maxHeartbeats 4000000 in
set_option maxRecDepth 100000 in
theorem x_seek_s {X : mi_X} {h : mi_H} {B : Nat} (hw : ph_W B ph_0 (fun _ _ => 0) (fun _ _ => 0) h) {x : Int32} (hx : x < 0 ∨ (240 : Int32) ≤ x) : mi_SX pP X kX8_seek 7 [.ref B, .int x] h 1 6 (fun _ _ => False) (xq 12 h) := by
  refine exX8_seek (Nat.le_of_ble_eq_true rfl) ?_
  refine mi_blk okX8_seek 1 (pc' := 1) (lv' := [(0, .ref B), (1, .int x)]) (st' := [.int x]) rfl ?_
  exact mi_callSX okX8_seek (mc := 0) (ms := 0) (mc' := 1) (ms' := 6) (As := [.int x]) (st := []) rfl cs_RX8_188 rfl (by decide) (Nat.le_of_ble_eq_true rfl) (x_checkSector (show 6 ≤ h.1 by have := hw.z; omega) hx) (fun r h1 q => q.elim) (fun ce a h1 c1 q => mi_TX.out c1 q (no_h rfl))
set_option maxHeartbeats 4000000 in
set_option maxRecDepth 100000 in
theorem x_angle_s {X : mi_X} {h : mi_H} {B : Nat} (hw : ph_W B ph_0 (fun _ _ => 0) (fun _ _ => 0) h) {x : Int32} (hx : x < 0 ∨ (240 : Int32) ≤ x) : mi_SX pP X kX8_angle 7 [.ref B, .int x] h 1 6 (fun _ _ => False) (xq 12 h) := by
  refine exX8_angle (Nat.le_of_ble_eq_true rfl) ?_
  refine mi_blk okX8_angle 1 (pc' := 1) (lv' := [(0, .ref B), (1, .int x)]) (st' := [.int x]) rfl ?_
  exact mi_callSX okX8_angle (mc := 0) (ms := 0) (mc' := 1) (ms' := 6) (As := [.int x]) (st := []) rfl cs_RX8_188 rfl (by decide) (Nat.le_of_ble_eq_true rfl) (x_checkSector (show 6 ≤ h.1 by have := hw.z; omega) hx) (fun r h1 q => q.elim) (fun ce a h1 c1 q => mi_TX.out c1 q (no_h rfl))
set_option maxHeartbeats 4000000 in
set_option maxRecDepth 100000 in
theorem x_ofSector_s {X : mi_X} {h : mi_H} {B : Nat} (hw : ph_W B ph_0 (fun _ _ => 0) (fun _ _ => 0) h) {x : Int32} (hx : x < 0 ∨ (240 : Int32) ≤ x) {y : Int32} : mi_SX pP X kX8_ofSector 7 [.ref B, .int x, .int y] h 1 6 (fun _ _ => False) (xq 12 h) := by
  refine exX8_ofSector (Nat.le_of_ble_eq_true rfl) ?_
  refine mi_blk okX8_ofSector 1 (pc' := 1) (lv' := [(0, .ref B), (1, .int x), (2, .int y)]) (st' := [.int x]) rfl ?_
  exact mi_callSX okX8_ofSector (mc := 0) (ms := 0) (mc' := 1) (ms' := 6) (As := [.int x]) (st := []) rfl cs_RX8_188 rfl (by decide) (Nat.le_of_ble_eq_true rfl) (x_checkSector (show 6 ≤ h.1 by have := hw.z; omega) hx) (fun r h1 q => q.elim) (fun ce a h1 c1 q => mi_TX.out c1 q (no_h rfl))
set_option maxHeartbeats 4000000 in
set_option maxRecDepth 100000 in
theorem x_nibbles_s {X : mi_X} {h : mi_H} {B : Nat} (hw : ph_W B ph_0 (fun _ _ => 0) (fun _ _ => 0) h) {x : Int32} (hx : x < 0 ∨ (240 : Int32) ≤ x) {y : Int32} : mi_SX pP X kX8_nibbles 7 [.ref B, .int x, .int y] h 1 6 (fun _ _ => False) (xq 12 h) := by
  refine exX8_nibbles (Nat.le_of_ble_eq_true rfl) ?_
  refine mi_blk okX8_nibbles 1 (pc' := 1) (lv' := [(0, .ref B), (1, .int x), (2, .int y)]) (st' := [.int x]) rfl ?_
  exact mi_callSX okX8_nibbles (mc := 0) (ms := 0) (mc' := 1) (ms' := 6) (As := [.int x]) (st := []) rfl cs_RX8_188 rfl (by decide) (Nat.le_of_ble_eq_true rfl) (x_checkSector (show 6 ≤ h.1 by have := hw.z; omega) hx) (fun r h1 q => q.elim) (fun ce a h1 c1 q => mi_TX.out c1 q (no_h rfl))
set_option maxHeartbeats 4000000 in
set_option maxRecDepth 100000 in
theorem x_place_s {X : mi_X} {h : mi_H} {B : Nat} (hw : ph_W B ph_0 (fun _ _ => 0) (fun _ _ => 0) h) {x : Int32} (hx : x < 0 ∨ (240 : Int32) ≤ x) {y : Int32} : mi_SX pP X kX8_place 7 [.ref B, .int x, .int y] h 1 6 (fun _ _ => False) (xq 12 h) := by
  refine exX8_place (Nat.le_of_ble_eq_true rfl) ?_
  refine mi_blk okX8_place 1 (pc' := 1) (lv' := [(0, .ref B), (1, .int x), (2, .int y)]) (st' := [.int x]) rfl ?_
  exact mi_callSX okX8_place (mc := 0) (ms := 0) (mc' := 1) (ms' := 6) (As := [.int x]) (st := []) rfl cs_RX8_188 rfl (by decide) (Nat.le_of_ble_eq_true rfl) (x_checkSector (show 6 ≤ h.1 by have := hw.z; omega) hx) (fun r h1 q => q.elim) (fun ce a h1 c1 q => mi_TX.out c1 q (no_h rfl))
set_option maxHeartbeats 4000000 in
set_option maxRecDepth 100000 in
theorem x_play_s {X : mi_X} {h : mi_H} {B : Nat} (hw : ph_W B ph_0 (fun _ _ => 0) (fun _ _ => 0) h) {x : Int32} (hx : x < 0 ∨ (240 : Int32) ≤ x) : mi_SX pP X kX8_play 7 [.ref B, .int x] h 1 6 (fun _ _ => False) (xq 12 h) := by
  refine exX8_play (Nat.le_of_ble_eq_true rfl) ?_
  refine mi_blk okX8_play 1 (pc' := 1) (lv' := [(0, .ref B), (1, .int x)]) (st' := [.int x]) rfl ?_
  exact mi_callSX okX8_play (mc := 0) (ms := 0) (mc' := 1) (ms' := 6) (As := [.int x]) (st := []) rfl cs_RX8_188 rfl (by decide) (Nat.le_of_ble_eq_true rfl) (x_checkSector (show 6 ≤ h.1 by have := hw.z; omega) hx) (fun r h1 q => q.elim) (fun ce a h1 c1 q => mi_TX.out c1 q (no_h rfl))
set_option maxHeartbeats 4000000 in
set_option maxRecDepth 100000 in
theorem x_wouldTake_s {X : mi_X} {h : mi_H} {B : Nat} (hw : ph_W B ph_0 (fun _ _ => 0) (fun _ _ => 0) h) {x : Int32} (hx : x < 0 ∨ (240 : Int32) ≤ x) {y : Int32} : mi_SX pP X kX8_wouldTake 7 [.ref B, .int x, .int y] h 1 6 (fun _ _ => False) (xq 12 h) := by
  refine exX8_wouldTake (Nat.le_of_ble_eq_true rfl) ?_
  refine mi_blk okX8_wouldTake 1 (pc' := 1) (lv' := [(0, .ref B), (1, .int x), (2, .int y)]) (st' := [.int x]) rfl ?_
  exact mi_callSX okX8_wouldTake (mc := 0) (ms := 0) (mc' := 1) (ms' := 6) (As := [.int x]) (st := []) rfl cs_RX8_188 rfl (by decide) (Nat.le_of_ble_eq_true rfl) (x_checkSector (show 6 ≤ h.1 by have := hw.z; omega) hx) (fun r h1 q => q.elim) (fun ce a h1 c1 q => mi_TX.out c1 q (no_h rfl))
set_option maxHeartbeats 4000000 in
set_option maxRecDepth 100000 in
theorem x_wouldMend_s {X : mi_X} {h : mi_H} {B : Nat} (hw : ph_W B ph_0 (fun _ _ => 0) (fun _ _ => 0) h) {x : Int32} (hx : x < 0 ∨ (240 : Int32) ≤ x) {y : Int32} : mi_SX pP X kX8_wouldMend 7 [.ref B, .int x, .int y] h 1 6 (fun _ _ => False) (xq 12 h) := by
  refine exX8_wouldMend (Nat.le_of_ble_eq_true rfl) ?_
  refine mi_blk okX8_wouldMend 1 (pc' := 1) (lv' := [(0, .ref B), (1, .int x), (2, .int y)]) (st' := [.int x]) rfl ?_
  exact mi_callSX okX8_wouldMend (mc := 0) (ms := 0) (mc' := 1) (ms' := 6) (As := [.int x]) (st := []) rfl cs_RX8_188 rfl (by decide) (Nat.le_of_ble_eq_true rfl) (x_checkSector (show 6 ≤ h.1 by have := hw.z; omega) hx) (fun r h1 q => q.elim) (fun ce a h1 c1 q => mi_TX.out c1 q (no_h rfl))
set_option maxHeartbeats 4000000 in
set_option maxRecDepth 100000 in
theorem x_file_f {X : mi_X} {h : mi_H} {B : Nat} (hw : ph_W B ph_0 (fun _ _ => 0) (fun _ _ => 0) h) {x : Int32} (hx : x < 0 ∨ (10 : Int32) ≤ x) {y z : Int32} : mi_SX pP X kX8_file 7 [.ref B, .int x, .int y, .int z] h 1 6 (fun _ _ => False) (xq 12 h) := by
  refine exX8_file (Nat.le_of_ble_eq_true rfl) ?_
  refine mi_blk okX8_file 1 (pc' := 1) (lv' := [(0, .ref B), (1, .int x), (2, .int y), (3, .int z)]) (st' := [.int x]) rfl ?_
  exact mi_callSX okX8_file (mc := 0) (ms := 0) (mc' := 1) (ms' := 6) (As := [.int x]) (st := []) rfl cs_RX8_133 rfl (by decide) (Nat.le_of_ble_eq_true rfl) (x_checkFile (show 6 ≤ h.1 by have := hw.z; omega) hx) (fun r h1 q => q.elim) (fun ce a h1 c1 q => mi_TX.out c1 q (no_h rfl))
set_option maxHeartbeats 4000000 in
set_option maxRecDepth 100000 in
theorem x_ofFile_f {X : mi_X} {h : mi_H} {B : Nat} (hw : ph_W B ph_0 (fun _ _ => 0) (fun _ _ => 0) h) {x : Int32} (hx : x < 0 ∨ (10 : Int32) ≤ x) {y z : Int32} : mi_SX pP X kX8_ofFile 7 [.ref B, .int x, .int y, .int z] h 1 6 (fun _ _ => False) (xq 12 h) := by
  refine exX8_ofFile (Nat.le_of_ble_eq_true rfl) ?_
  refine mi_blk okX8_ofFile 1 (pc' := 1) (lv' := [(0, .ref B), (1, .int x), (2, .int y), (3, .int z)]) (st' := [.int x]) rfl ?_
  exact mi_callSX okX8_ofFile (mc := 0) (ms := 0) (mc' := 1) (ms' := 6) (As := [.int x]) (st := []) rfl cs_RX8_133 rfl (by decide) (Nat.le_of_ble_eq_true rfl) (x_checkFile (show 6 ≤ h.1 by have := hw.z; omega) hx) (fun r h1 q => q.elim) (fun ce a h1 c1 q => mi_TX.out c1 q (no_h rfl))
set_option maxHeartbeats 4000000 in
set_option maxRecDepth 100000 in
theorem x_ofFile_s {X : mi_X} {h : mi_H} {B : Nat} (hw : ph_W B ph_0 (fun _ _ => 0) (fun _ _ => 0) h) {i : Nat} (hi : i < 10) {y z : Int32} : mi_SX pP X kX8_ofFile 7 [.ref B, .int (nI i), .int y, .int z] h 1 6 (fun _ _ => False) (xq 12 h) := by
  refine exX8_ofFile (Nat.le_of_ble_eq_true rfl) ?_
  refine mi_blk okX8_ofFile 1 (pc' := 1) (lv' := [(0, .ref B), (1, .int (nI i)), (2, .int y), (3, .int z)]) (st' := [.int (nI i)]) rfl ?_
  refine mi_callS okX8_ofFile (mc := 1) (ms := 6) (mc' := 0) (ms' := 0) (As := [.int (nI i)]) (st := []) rfl cs_RX8_133 rfl (by decide) (Nat.le_of_ble_eq_true rfl) (c_checkFile hi) (fun r h1 q => ?_)
  obtain ⟨rfl, e9⟩ := q; have e9 := e9.symm; subst e9
  change mi_WX _ pP X kX8_ofFile 7 1 6 4 [(0, .ref B), (1, .int (nI i)), (2, .int y), (3, .int z)] [] h _
  refine mi_blk okX8_ofFile 1 (pc' := 5) (lv' := [(0, .ref B), (1, .int (nI i)), (2, .int y), (3, .int z)]) (st' := [.int y]) rfl ?_
  refine mi_if_lt okX8_ofFile rfl rfl (fun c_5 => ?_) (fun c_5 => ?_)
  · refine mi_mkxW okX8_ofFile (mc := 0) (ms := 0) rfl rfl rfl rfl xw_272 (by decide) (Nat.le_of_ble_eq_true rfl) ?_
    exact mi_athrow okX8_ofFile rfl (mi_TX.out ⟨(show 6 ≤ h.1 by have := hw.z; omega), Nat.lt_succ_self _, mi_psh_self⟩ ⟨rfl, rfl⟩ (no_h rfl))
  · refine mi_blk okX8_ofFile 2 (pc' := 10) (lv' := [(0, .ref B), (1, .int (nI i)), (2, .int y), (3, .int z)]) (st' := [.ref B, .int y]) rfl ?_
    refine mi_getf okX8_ofFile rfl fg_RX8_42 (show 6 ≤ _ by have := hw.z; omega) (show _ < h.1 by have := hw.z; omega) hw.ph (v := .int 0) rfl ?_
    refine mi_ic_lt okX8_ofFile rfl rfl (fun c_13 => absurd c_13 c_5) (fun c_13 => ?_)
    refine mi_mkxW okX8_ofFile (mc := 0) (ms := 0) rfl rfl rfl rfl xw_272 (by decide) (Nat.le_of_ble_eq_true rfl) ?_
    exact mi_athrow okX8_ofFile rfl (mi_TX.out ⟨(show 6 ≤ h.1 by have := hw.z; omega), Nat.lt_succ_self _, mi_psh_self⟩ ⟨rfl, rfl⟩ (no_h rfl))
set_option maxHeartbeats 4000000 in
set_option maxRecDepth 100000 in
theorem x_place_p {X : mi_X} {h : mi_H} {B : Nat} (hw : ph_W B ph_0 (fun _ _ => 0) (fun _ _ => 0) h) {k : Nat} (hk : k < 240) {y : Int32} (hy : y < 0 ∨ (16 : Int32) ≤ y) : mi_SX pP X kX8_place 7 [.ref B, .int (nI k), .int y] h 1 6 (fun _ _ => False) (xq 12 h) := by
  refine exX8_place (Nat.le_of_ble_eq_true rfl) ?_
  refine mi_blk okX8_place 1 (pc' := 1) (lv' := [(0, .ref B), (1, .int (nI k)), (2, .int y)]) (st' := [.int (nI k)]) rfl ?_
  refine mi_callS okX8_place (mc := 1) (ms := 6) (mc' := 0) (ms' := 0) (As := [.int (nI k)]) (st := []) rfl cs_RX8_188 rfl (by decide) (Nat.le_of_ble_eq_true rfl) (c_checkSector hk) (fun r h1 q => ?_)
  obtain ⟨rfl, e9⟩ := q; have e9 := e9.symm; subst e9
  change mi_WX _ pP X kX8_place 7 1 6 4 [(0, .ref B), (1, .int (nI k)), (2, .int y)] [] h _
  refine mi_blk okX8_place 1 (pc' := 5) (lv' := [(0, .ref B), (1, .int (nI k)), (2, .int y)]) (st' := [.int y]) rfl ?_
  refine mi_if_lt okX8_place rfl rfl (fun c_5 => ?_) (fun c_5 => ?_)
  · refine mi_mkx okX8_place (mc := 0) (ms := 0) rfl rfl rfl rfl xw_248 (by decide) (Nat.le_of_ble_eq_true rfl) ?_
    exact mi_athrow okX8_place rfl (mi_TX.out ⟨(show 6 ≤ h.1 by have := hw.z; omega), Nat.lt_succ_self _, mi_psh_self⟩ ⟨rfl, rfl⟩ (no_h rfl))
  · refine mi_blk okX8_place 2 (pc' := 11) (lv' := [(0, .ref B), (1, .int (nI k)), (2, .int y)]) (st' := [.int 16, .int y]) rfl ?_
    refine mi_ic_lt okX8_place rfl rfl (fun c_11 => absurd c_11 (i_nlt (hy.resolve_left c_5))) (fun c_11 => ?_)
    refine mi_mkx okX8_place (mc := 0) (ms := 0) rfl rfl rfl rfl xw_248 (by decide) (Nat.le_of_ble_eq_true rfl) ?_
    exact mi_athrow okX8_place rfl (mi_TX.out ⟨(show 6 ≤ h.1 by have := hw.z; omega), Nat.lt_succ_self _, mi_psh_self⟩ ⟨rfl, rfl⟩ (no_h rfl))
set_option maxHeartbeats 4000000 in
set_option maxRecDepth 100000 in
theorem x_wouldTake_n {X : mi_X} {h : mi_H} {B : Nat} (hw : ph_W B ph_0 (fun _ _ => 0) (fun _ _ => 0) h) {k : Nat} (hk : k < 240) {y : Int32} (hy : y < 1 ∨ (40 : Int32) < y) : mi_SX pP X kX8_wouldTake 7 [.ref B, .int (nI k), .int y] h 1 6 (fun _ _ => False) (xq 11 h) := by
  refine exX8_wouldTake (Nat.le_of_ble_eq_true rfl) ?_
  refine mi_blk okX8_wouldTake 1 (pc' := 1) (lv' := [(0, .ref B), (1, .int (nI k)), (2, .int y)]) (st' := [.int (nI k)]) rfl ?_
  refine mi_callS okX8_wouldTake (mc := 1) (ms := 6) (mc' := 0) (ms' := 0) (As := [.int (nI k)]) (st := []) rfl cs_RX8_188 rfl (by decide) (Nat.le_of_ble_eq_true rfl) (c_checkSector hk) (fun r h1 q => ?_)
  obtain ⟨rfl, e9⟩ := q; have e9 := e9.symm; subst e9
  change mi_WX _ pP X kX8_wouldTake 7 1 6 4 [(0, .ref B), (1, .int (nI k)), (2, .int y)] [] h _
  refine mi_blk okX8_wouldTake 2 (pc' := 6) (lv' := [(0, .ref B), (1, .int (nI k)), (2, .int y)]) (st' := [.int 1, .int y]) rfl ?_
  refine mi_ic_lt okX8_wouldTake rfl rfl (fun c_6 => ?_) (fun c_6 => ?_)
  · refine mi_mkxW okX8_wouldTake (mc := 0) (ms := 0) rfl rfl rfl rfl xw_303 (by decide) (Nat.le_of_ble_eq_true rfl) ?_
    exact mi_athrow okX8_wouldTake rfl (mi_TX.out ⟨(show 6 ≤ h.1 by have := hw.z; omega), Nat.lt_succ_self _, mi_psh_self⟩ ⟨rfl, rfl⟩ (no_h rfl))
  · refine mi_blk okX8_wouldTake 2 (pc' := 12) (lv' := [(0, .ref B), (1, .int (nI k)), (2, .int y)]) (st' := [.int 40, .int y]) rfl ?_
    refine mi_ic_le okX8_wouldTake rfl rfl (fun c_12 => absurd c_12 (i_nle (hy.resolve_left c_6))) (fun c_12 => ?_)
    refine mi_mkxW okX8_wouldTake (mc := 0) (ms := 0) rfl rfl rfl rfl xw_303 (by decide) (Nat.le_of_ble_eq_true rfl) ?_
    exact mi_athrow okX8_wouldTake rfl (mi_TX.out ⟨(show 6 ≤ h.1 by have := hw.z; omega), Nat.lt_succ_self _, mi_psh_self⟩ ⟨rfl, rfl⟩ (no_h rfl))
set_option maxHeartbeats 4000000 in
set_option maxRecDepth 100000 in
theorem x_wouldMend_t {X : mi_X} {h : mi_H} {B : Nat} (hw : ph_W B ph_0 (fun _ _ => 0) (fun _ _ => 0) h) {k : Nat} (hk : k < 240) {y : Int32} (hy : y < 0 ∨ (65535 : Int32) < y) : mi_SX pP X kX8_wouldMend 7 [.ref B, .int (nI k), .int y] h 1 6 (fun _ _ => False) (xq 11 h) := by
  refine exX8_wouldMend (Nat.le_of_ble_eq_true rfl) ?_
  refine mi_blk okX8_wouldMend 1 (pc' := 1) (lv' := [(0, .ref B), (1, .int (nI k)), (2, .int y)]) (st' := [.int (nI k)]) rfl ?_
  refine mi_callS okX8_wouldMend (mc := 1) (ms := 6) (mc' := 0) (ms' := 0) (As := [.int (nI k)]) (st := []) rfl cs_RX8_188 rfl (by decide) (Nat.le_of_ble_eq_true rfl) (c_checkSector hk) (fun r h1 q => ?_)
  obtain ⟨rfl, e9⟩ := q; have e9 := e9.symm; subst e9
  change mi_WX _ pP X kX8_wouldMend 7 1 6 4 [(0, .ref B), (1, .int (nI k)), (2, .int y)] [] h _
  refine mi_blk okX8_wouldMend 1 (pc' := 5) (lv' := [(0, .ref B), (1, .int (nI k)), (2, .int y)]) (st' := [.int y]) rfl ?_
  refine mi_if_lt okX8_wouldMend rfl rfl (fun c_5 => ?_) (fun c_5 => ?_)
  · refine mi_mkxW okX8_wouldMend (mc := 0) (ms := 0) rfl rfl rfl rfl xw_314 (by decide) (Nat.le_of_ble_eq_true rfl) ?_
    exact mi_athrow okX8_wouldMend rfl (mi_TX.out ⟨(show 6 ≤ h.1 by have := hw.z; omega), Nat.lt_succ_self _, mi_psh_self⟩ ⟨rfl, rfl⟩ (no_h rfl))
  · refine mi_blk okX8_wouldMend 1 (pc' := 9) (lv' := [(0, .ref B), (1, .int (nI k)), (2, .int y)]) (st' := [.int y]) rfl ?_
    refine mi_ldcw okX8_wouldMend (v := (65535 : Int32)) rfl kc_RX8_313 ?_
    refine mi_ic_le okX8_wouldMend rfl rfl (fun c_12 => absurd c_12 (i_nle (hy.resolve_left c_5))) (fun c_12 => ?_)
    refine mi_mkxW okX8_wouldMend (mc := 0) (ms := 0) rfl rfl rfl rfl xw_314 (by decide) (Nat.le_of_ble_eq_true rfl) ?_
    exact mi_athrow okX8_wouldMend rfl (mi_TX.out ⟨(show 6 ≤ h.1 by have := hw.z; omega), Nat.lt_succ_self _, mi_psh_self⟩ ⟨rfl, rfl⟩ (no_h rfl))
set_option maxHeartbeats 4000000 in
set_option maxRecDepth 100000 in
theorem x_play_n {X : mi_X} {h : mi_H} {B : Nat} (hw : ph_W B ph_0 (fun _ _ => 0) (fun _ _ => 0) h) {k : Nat} (hk : k < 240) : mi_SX pP X kX8_play 7 [.ref B, .int (nI k)] h 1 6 (fun _ _ => False) (xq 11 h) := by
  refine exX8_play (Nat.le_of_ble_eq_true rfl) ?_
  refine mi_blk okX8_play 1 (pc' := 1) (lv' := [(0, .ref B), (1, .int (nI k))]) (st' := [.int (nI k)]) rfl ?_
  refine mi_callS okX8_play (mc := 1) (ms := 6) (mc' := 0) (ms' := 0) (As := [.int (nI k)]) (st := []) rfl cs_RX8_188 rfl (by decide) (Nat.le_of_ble_eq_true rfl) (c_checkSector hk) (fun r h1 q => ?_)
  obtain ⟨rfl, e9⟩ := q; have e9 := e9.symm; subst e9
  change mi_WX _ pP X kX8_play 7 1 6 4 [(0, .ref B), (1, .int (nI k))] [] h _
  refine mi_blk okX8_play 2 (pc' := 6) (lv' := [(0, .ref B), (1, .int (nI k))]) (st' := [.int (nI k), .ref B]) rfl ?_
  refine mi_callV okX8_play (mc := 1) (ms := 6) (mc' := 0) (ms' := 0) (b := B) (As := [.int (nI k)]) (st := []) rfl cv_RX8_142 rfl (by decide) (show 6 ≤ _ by have := hw.z; omega) (show _ < h.1 by have := hw.z; omega) hw.ph rfl (Nat.le_of_ble_eq_true rfl) (show mi_S pP X kX8_trackOf 2 [.ref B, .int (nI k)] h 0 0 (fun r h1 => r = some (.int (-1)) ∧ h1 = h) from c_trackOf hw (n := 0) (by omega) rfl) (fun r h1 q => ?_)
  obtain ⟨rfl, e9⟩ := q; have e9 := e9.symm; subst e9
  change mi_WX _ pP X kX8_play 7 1 6 9 [(0, .ref B), (1, .int (nI k))] [.int (-1)] h _
  refine mi_blk okX8_play 3 (pc' := 12) (lv' := [(2, .int (-1)), (0, .ref B), (1, .int (nI k))]) (st' := [.int (-1), .int (-1)]) rfl ?_
  refine mi_ic_eq okX8_play rfl rfl (fun c_12 => ?_) (fun c_12 => absurd (by decide) c_12)
  refine mi_mkxW okX8_play (mc := 0) (ms := 0) rfl rfl rfl rfl xw_285 (by decide) (Nat.le_of_ble_eq_true rfl) ?_
  exact mi_athrow okX8_play rfl (mi_TX.out ⟨(show 6 ≤ h.1 by have := hw.z; omega), Nat.lt_succ_self _, mi_psh_self⟩ ⟨rfl, rfl⟩ (no_h rfl))
set_option maxHeartbeats 4000000 in
set_option maxRecDepth 100000 in
theorem x_file_n {X : mi_X} {h : mi_H} {B : Nat} (hw : ph_W B ph_0 (fun _ _ => 0) (fun _ _ => 0) h) {i : Nat} (hi : i < 10) {y z : Int32} (hy : y < 0 ∨ (240 : Int32) ≤ y) : mi_SX pP X kX8_file 7 [.ref B, .int (nI i), .int y, .int z] h 1 6 (fun _ _ => False) (xq 11 h) := by
  refine exX8_file (Nat.le_of_ble_eq_true rfl) ?_
  refine mi_blk okX8_file 1 (pc' := 1) (lv' := [(0, .ref B), (1, .int (nI i)), (2, .int y), (3, .int z)]) (st' := [.int (nI i)]) rfl ?_
  refine mi_callS okX8_file (mc := 1) (ms := 6) (mc' := 0) (ms' := 0) (As := [.int (nI i)]) (st := []) rfl cs_RX8_133 rfl (by decide) (Nat.le_of_ble_eq_true rfl) (c_checkFile hi) (fun r h1 q => ?_)
  obtain ⟨rfl, e9⟩ := q; have e9 := e9.symm; subst e9
  change mi_WX _ pP X kX8_file 7 1 6 4 [(0, .ref B), (1, .int (nI i)), (2, .int y), (3, .int z)] [] h _
  refine mi_blk okX8_file 1 (pc' := 5) (lv' := [(0, .ref B), (1, .int (nI i)), (2, .int y), (3, .int z)]) (st' := [.int y]) rfl ?_
  refine mi_callS okX8_file (mc := 1) (ms := 6) (mc' := 0) (ms' := 0) (As := [.int y]) (st := []) rfl cs_RX8_136 rfl (by decide) (Nat.le_of_ble_eq_true rfl) (c_isSector_x hy) (fun r h1 q => ?_)
  obtain ⟨rfl, e9⟩ := q; have e9 := e9.symm; subst e9
  change mi_WX _ pP X kX8_file 7 1 6 8 [(0, .ref B), (1, .int (nI i)), (2, .int y), (3, .int z)] [.int 0] h _
  refine mi_if_eq okX8_file rfl rfl (fun c_8 => ?_) (fun c_8 => absurd (by decide) c_8)
  refine mi_mkx okX8_file (mc := 0) (ms := 0) rfl rfl rfl rfl xw_140 (by decide) (Nat.le_of_ble_eq_true rfl) ?_
  exact mi_athrow okX8_file rfl (mi_TX.out ⟨(show 6 ≤ h.1 by have := hw.z; omega), Nat.lt_succ_self _, mi_psh_self⟩ ⟨rfl, rfl⟩ (no_h rfl))
set_option maxHeartbeats 4000000 in
set_option maxRecDepth 100000 in
theorem x_file_t {X : mi_X} {h : mi_H} {B : Nat} (hw : ph_W B ph_0 (fun _ _ => 0) (fun _ _ => 0) h) {i : Nat} (hi : i < 10) {k : Nat} (hk : k < 240) {z : Int32} : mi_SX pP X kX8_file 7 [.ref B, .int (nI i), .int (nI k), .int z] h 1 6 (fun _ _ => False) (xq 11 h) := by
  refine exX8_file (Nat.le_of_ble_eq_true rfl) ?_
  refine mi_blk okX8_file 1 (pc' := 1) (lv' := [(0, .ref B), (1, .int (nI i)), (2, .int (nI k)), (3, .int z)]) (st' := [.int (nI i)]) rfl ?_
  refine mi_callS okX8_file (mc := 1) (ms := 6) (mc' := 0) (ms' := 0) (As := [.int (nI i)]) (st := []) rfl cs_RX8_133 rfl (by decide) (Nat.le_of_ble_eq_true rfl) (c_checkFile hi) (fun r h1 q => ?_)
  obtain ⟨rfl, e9⟩ := q; have e9 := e9.symm; subst e9
  change mi_WX _ pP X kX8_file 7 1 6 4 [(0, .ref B), (1, .int (nI i)), (2, .int (nI k)), (3, .int z)] [] h _
  refine mi_blk okX8_file 1 (pc' := 5) (lv' := [(0, .ref B), (1, .int (nI i)), (2, .int (nI k)), (3, .int z)]) (st' := [.int (nI k)]) rfl ?_
  refine mi_callS okX8_file (mc := 1) (ms := 6) (mc' := 0) (ms' := 0) (As := [.int (nI k)]) (st := []) rfl cs_RX8_136 rfl (by decide) (Nat.le_of_ble_eq_true rfl) (c_isSector hk) (fun r h1 q => ?_)
  obtain ⟨rfl, e9⟩ := q; have e9 := e9.symm; subst e9
  change mi_WX _ pP X kX8_file 7 1 6 8 [(0, .ref B), (1, .int (nI i)), (2, .int (nI k)), (3, .int z)] [.int 1] h _
  refine mi_if_eq okX8_file rfl rfl (fun c_8 => absurd c_8 (by decide)) (fun c_8 => ?_)
  refine mi_blk okX8_file 2 (pc' := 13) (lv' := [(0, .ref B), (1, .int (nI i)), (2, .int (nI k)), (3, .int z)]) (st' := [.int 1, .int z]) rfl ?_
  refine mi_ic_lt okX8_file rfl rfl (fun c_13 => ?_) (fun c_13 => ?_)
  · refine mi_mkx okX8_file (mc := 0) (ms := 0) rfl rfl rfl rfl xw_140 (by decide) (Nat.le_of_ble_eq_true rfl) ?_
    exact mi_athrow okX8_file rfl (mi_TX.out ⟨(show 6 ≤ h.1 by have := hw.z; omega), Nat.lt_succ_self _, mi_psh_self⟩ ⟨rfl, rfl⟩ (no_h rfl))
  · refine mi_blk okX8_file 2 (pc' := 19) (lv' := [(0, .ref B), (1, .int (nI i)), (2, .int (nI k)), (3, .int z)]) (st' := [.int 20, .int z]) rfl ?_
    refine mi_ic_le okX8_file rfl rfl (fun c_19 => ?_) (fun c_19 => ?_)
    · refine mi_blk okX8_file 2 (pc' := 34) (lv' := [(0, .ref B), (1, .int (nI i)), (2, .int (nI k)), (3, .int z)]) (st' := [.int (nI k), .ref B]) rfl ?_
      refine mi_callV okX8_file (mc := 1) (ms := 6) (mc' := 0) (ms' := 0) (b := B) (As := [.int (nI k)]) (st := []) rfl cv_RX8_142 rfl (by decide) (show 6 ≤ _ by have := hw.z; omega) (show _ < h.1 by have := hw.z; omega) hw.ph rfl (Nat.le_of_ble_eq_true rfl) (show mi_S pP X kX8_trackOf 2 [.ref B, .int (nI k)] h 0 0 (fun r h1 => r = some (.int (-1)) ∧ h1 = h) from c_trackOf hw (n := 0) (by omega) rfl) (fun r h1 q => ?_)
      obtain ⟨rfl, e9⟩ := q; have e9 := e9.symm; subst e9
      change mi_WX _ pP X kX8_file 7 1 6 37 [(0, .ref B), (1, .int (nI i)), (2, .int (nI k)), (3, .int z)] [.int (-1)] h _
      refine mi_blk okX8_file 3 (pc' := 42) (lv' := [(4, .int (-1)), (0, .ref B), (1, .int (nI i)), (2, .int (nI k)), (3, .int z)]) (st' := [.int (-1), .int (-1)]) rfl ?_
      refine mi_ic_eq okX8_file rfl rfl (fun c_42 => ?_) (fun c_42 => absurd (by decide) c_42)
      refine mi_mkx okX8_file (mc := 0) (ms := 0) rfl rfl rfl rfl xw_149 (by decide) (Nat.le_of_ble_eq_true rfl) ?_
      exact mi_athrow okX8_file rfl (mi_TX.out ⟨(show 6 ≤ h.1 by have := hw.z; omega), Nat.lt_succ_self _, mi_psh_self⟩ ⟨rfl, rfl⟩ (no_h rfl))
    · refine mi_mkx okX8_file (mc := 0) (ms := 0) rfl rfl rfl rfl xw_140 (by decide) (Nat.le_of_ble_eq_true rfl) ?_
      exact mi_athrow okX8_file rfl (mi_TX.out ⟨(show 6 ≤ h.1 by have := hw.z; omega), Nat.lt_succ_self _, mi_psh_self⟩ ⟨rfl, rfl⟩ (no_h rfl))
set_option maxHeartbeats 4000000 in
set_option maxRecDepth 100000 in
theorem x_track_a {X : mi_X} {h : mi_H} {B : Nat} (hw : ph_W B ph_0 (fun _ _ => 0) (fun _ _ => 0) h) {x y : Int32} (hx : (¬ x = 0 ∧ ¬ x = 1) ∨ y < 1 ∨ (40 : Int32) < y) : mi_SX pP X kX8_track 6 [.ref B, .int x, .int y] h 1 6 (fun _ _ => False) (xq 11 h) := by
  refine exX8_track (Nat.le_of_ble_eq_true rfl) ?_
  refine mi_blk okX8_track 1 (pc' := 1) (lv' := [(0, .ref B), (1, .int x), (2, .int y)]) (st' := [.int x]) rfl ?_
  refine mi_if_eq okX8_track rfl rfl (fun c_1 => ?_) (fun c_1 => ?_)
  · refine mi_blk okX8_track 2 (pc' := 11) (lv' := [(0, .ref B), (1, .int x), (2, .int y)]) (st' := [.int 1, .int y]) rfl ?_
    refine mi_ic_lt okX8_track rfl rfl (fun c_11 => ?_) (fun c_11 => ?_)
    · refine mi_mkx okX8_track (mc := 0) (ms := 0) rfl rfl rfl rfl xw_76 (by decide) (Nat.le_of_ble_eq_true rfl) ?_
      exact mi_athrow okX8_track rfl (mi_TX.out ⟨(show 6 ≤ h.1 by have := hw.z; omega), Nat.lt_succ_self _, mi_psh_self⟩ ⟨rfl, rfl⟩ (no_h rfl))
    · refine mi_blk okX8_track 2 (pc' := 17) (lv' := [(0, .ref B), (1, .int x), (2, .int y)]) (st' := [.int 40, .int y]) rfl ?_
      refine mi_ic_le okX8_track rfl rfl (fun c_17 => absurd c_17 (i_nle ((hx.resolve_left (fun q => q.1 c_1)).resolve_left c_11))) (fun c_17 => ?_)
      refine mi_mkx okX8_track (mc := 0) (ms := 0) rfl rfl rfl rfl xw_76 (by decide) (Nat.le_of_ble_eq_true rfl) ?_
      exact mi_athrow okX8_track rfl (mi_TX.out ⟨(show 6 ≤ h.1 by have := hw.z; omega), Nat.lt_succ_self _, mi_psh_self⟩ ⟨rfl, rfl⟩ (no_h rfl))
  · refine mi_blk okX8_track 2 (pc' := 6) (lv' := [(0, .ref B), (1, .int x), (2, .int y)]) (st' := [.int 1, .int x]) rfl ?_
    refine mi_ic_ne okX8_track rfl rfl (fun c_6 => ?_) (fun c_6 => ?_)
    · refine mi_mkx okX8_track (mc := 0) (ms := 0) rfl rfl rfl rfl xw_76 (by decide) (Nat.le_of_ble_eq_true rfl) ?_
      exact mi_athrow okX8_track rfl (mi_TX.out ⟨(show 6 ≤ h.1 by have := hw.z; omega), Nat.lt_succ_self _, mi_psh_self⟩ ⟨rfl, rfl⟩ (no_h rfl))
    · refine mi_blk okX8_track 2 (pc' := 11) (lv' := [(0, .ref B), (1, .int x), (2, .int y)]) (st' := [.int 1, .int y]) rfl ?_
      refine mi_ic_lt okX8_track rfl rfl (fun c_11 => ?_) (fun c_11 => ?_)
      · refine mi_mkx okX8_track (mc := 0) (ms := 0) rfl rfl rfl rfl xw_76 (by decide) (Nat.le_of_ble_eq_true rfl) ?_
        exact mi_athrow okX8_track rfl (mi_TX.out ⟨(show 6 ≤ h.1 by have := hw.z; omega), Nat.lt_succ_self _, mi_psh_self⟩ ⟨rfl, rfl⟩ (no_h rfl))
      · refine mi_blk okX8_track 2 (pc' := 17) (lv' := [(0, .ref B), (1, .int x), (2, .int y)]) (st' := [.int 40, .int y]) rfl ?_
        refine mi_ic_le okX8_track rfl rfl (fun c_17 => absurd c_17 (i_nle ((hx.resolve_left (fun q => q.2 c_6)).resolve_left c_11))) (fun c_17 => ?_)
        refine mi_mkx okX8_track (mc := 0) (ms := 0) rfl rfl rfl rfl xw_76 (by decide) (Nat.le_of_ble_eq_true rfl) ?_
        exact mi_athrow okX8_track rfl (mi_TX.out ⟨(show 6 ≤ h.1 by have := hw.z; omega), Nat.lt_succ_self _, mi_psh_self⟩ ⟨rfl, rfl⟩ (no_h rfl))
set_option maxHeartbeats 4000000 in
set_option maxRecDepth 100000 in
theorem x_track_s {X : mi_X} {h : mi_H} {B : Nat} (hw : ph_W B ph_0 (fun _ _ => 0) (fun _ _ => 0) h) {x y : Int32} (hx : x = 0 ∨ x = 1) (hy : ¬ y < 1) (hz : y ≤ (40 : Int32)) : mi_SX pP X kX8_track 6 [.ref B, .int x, .int y] h 1 6 (fun _ _ => False) (xq 10 h) := by
  refine exX8_track (Nat.le_of_ble_eq_true rfl) ?_
  refine mi_blk okX8_track 1 (pc' := 1) (lv' := [(0, .ref B), (1, .int x), (2, .int y)]) (st' := [.int x]) rfl ?_
  refine mi_if_eq okX8_track rfl rfl (fun c_1 => ?_) (fun c_1 => ?_)
  · refine mi_blk okX8_track 2 (pc' := 11) (lv' := [(0, .ref B), (1, .int x), (2, .int y)]) (st' := [.int 1, .int y]) rfl ?_
    refine mi_ic_lt okX8_track rfl rfl (fun c_11 => absurd c_11 hy) (fun c_11 => ?_)
    refine mi_blk okX8_track 2 (pc' := 17) (lv' := [(0, .ref B), (1, .int x), (2, .int y)]) (st' := [.int 40, .int y]) rfl ?_
    refine mi_ic_le okX8_track rfl rfl (fun c_17 => ?_) (fun c_17 => absurd hz c_17)
    refine mi_blk okX8_track 1 (pc' := 31) (lv' := [(0, .ref B), (1, .int x), (2, .int y)]) (st' := [.ref B]) rfl ?_
    refine mi_getf okX8_track rfl fg_RX8_55 (show 6 ≤ _ by have := hw.z; omega) (show _ < h.1 by have := hw.z; omega) hw.ph (v := .int 0) rfl ?_
    refine mi_if_eq okX8_track rfl rfl (fun c_34 => ?_) (fun c_34 => absurd (by decide) c_34)
    refine mi_mkx okX8_track (mc := 0) (ms := 0) rfl rfl rfl rfl xw_79 (by decide) (Nat.le_of_ble_eq_true rfl) ?_
    exact mi_athrow okX8_track rfl (mi_TX.out ⟨(show 6 ≤ h.1 by have := hw.z; omega), Nat.lt_succ_self _, mi_psh_self⟩ ⟨rfl, rfl⟩ (no_h rfl))
  · refine mi_blk okX8_track 2 (pc' := 6) (lv' := [(0, .ref B), (1, .int x), (2, .int y)]) (st' := [.int 1, .int x]) rfl ?_
    refine mi_ic_ne okX8_track rfl rfl (fun c_6 => absurd (hx.resolve_left c_1) c_6) (fun c_6 => ?_)
    refine mi_blk okX8_track 2 (pc' := 11) (lv' := [(0, .ref B), (1, .int x), (2, .int y)]) (st' := [.int 1, .int y]) rfl ?_
    refine mi_ic_lt okX8_track rfl rfl (fun c_11 => absurd c_11 hy) (fun c_11 => ?_)
    refine mi_blk okX8_track 2 (pc' := 17) (lv' := [(0, .ref B), (1, .int x), (2, .int y)]) (st' := [.int 40, .int y]) rfl ?_
    refine mi_ic_le okX8_track rfl rfl (fun c_17 => ?_) (fun c_17 => absurd hz c_17)
    refine mi_blk okX8_track 1 (pc' := 31) (lv' := [(0, .ref B), (1, .int x), (2, .int y)]) (st' := [.ref B]) rfl ?_
    refine mi_getf okX8_track rfl fg_RX8_55 (show 6 ≤ _ by have := hw.z; omega) (show _ < h.1 by have := hw.z; omega) hw.ph (v := .int 0) rfl ?_
    refine mi_if_eq okX8_track rfl rfl (fun c_34 => ?_) (fun c_34 => absurd (by decide) c_34)
    refine mi_mkx okX8_track (mc := 0) (ms := 0) rfl rfl rfl rfl xw_79 (by decide) (Nat.le_of_ble_eq_true rfl) ?_
    exact mi_athrow okX8_track rfl (mi_TX.out ⟨(show 6 ≤ h.1 by have := hw.z; omega), Nat.lt_succ_self _, mi_psh_self⟩ ⟨rfl, rfl⟩ (no_h rfl))
set_option maxHeartbeats 4000000 in
set_option maxRecDepth 100000 in
theorem x_end {X : mi_X} {h : mi_H} {B : Nat} (hw : ph_W B ph_0 (fun _ _ => 0) (fun _ _ => 0) h) : mi_SX pP X kX8_end 6 [.ref B] h 1 6 (fun _ _ => False) (xq 10 h) := by
  refine exX8_end (Nat.le_of_ble_eq_true rfl) ?_
  refine mi_blk okX8_end 1 (pc' := 1) (lv' := [(0, .ref B)]) (st' := [.ref B]) rfl ?_
  refine mi_getf okX8_end rfl fg_RX8_55 (show 6 ≤ _ by have := hw.z; omega) (show _ < h.1 by have := hw.z; omega) hw.ph (v := .int 0) rfl ?_
  refine mi_if_eq okX8_end rfl rfl (fun c_4 => ?_) (fun c_4 => absurd (by decide) c_4)
  refine mi_mkx okX8_end (mc := 0) (ms := 0) rfl rfl rfl rfl xw_131 (by decide) (Nat.le_of_ble_eq_true rfl) ?_
  exact mi_athrow okX8_end rfl (mi_TX.out ⟨(show 6 ≤ h.1 by have := hw.z; omega), Nat.lt_succ_self _, mi_psh_self⟩ ⟨rfl, rfl⟩ (no_h rfl))
set_option maxHeartbeats 4000000 in
set_option maxRecDepth 100000 in
theorem x_scratch_t {X : mi_X} {h : mi_H} {B : Nat} (hw : ph_W B ph_0 (fun _ _ => 0) (fun _ _ => 0) h) {x y z u : Int32} (hx : ((x < 0 ∨ (30 : Int32) ≤ x) ∨ y < x) ∨ (30 : Int32) ≤ y) : mi_SX pP X kX8_scratch 6 [.ref B, .int x, .int y, .int z, .int u] h 1 6 (fun _ _ => False) (xq 11 h) := by
  refine exX8_scratch (Nat.le_of_ble_eq_true rfl) ?_
  refine mi_blk okX8_scratch 1 (pc' := 1) (lv' := [(0, .ref B), (1, .int x), (2, .int y), (3, .int z), (4, .int u)]) (st' := [.int x]) rfl ?_
  refine mi_if_lt okX8_scratch rfl rfl (fun c_1 => ?_) (fun c_1 => ?_)
  · refine mi_mkx okX8_scratch (mc := 0) (ms := 0) rfl rfl rfl rfl xw_156 (by decide) (Nat.le_of_ble_eq_true rfl) ?_
    exact mi_athrow okX8_scratch rfl (mi_TX.out ⟨(show 6 ≤ h.1 by have := hw.z; omega), Nat.lt_succ_self _, mi_psh_self⟩ ⟨rfl, rfl⟩ (no_h rfl))
  · refine mi_blk okX8_scratch 2 (pc' := 7) (lv' := [(0, .ref B), (1, .int x), (2, .int y), (3, .int z), (4, .int u)]) (st' := [.int 30, .int x]) rfl ?_
    refine mi_ic_ge okX8_scratch rfl rfl (fun c_7 => ?_) (fun c_7 => ?_)
    · refine mi_mkx okX8_scratch (mc := 0) (ms := 0) rfl rfl rfl rfl xw_156 (by decide) (Nat.le_of_ble_eq_true rfl) ?_
      exact mi_athrow okX8_scratch rfl (mi_TX.out ⟨(show 6 ≤ h.1 by have := hw.z; omega), Nat.lt_succ_self _, mi_psh_self⟩ ⟨rfl, rfl⟩ (no_h rfl))
    · refine mi_blk okX8_scratch 2 (pc' := 12) (lv' := [(0, .ref B), (1, .int x), (2, .int y), (3, .int z), (4, .int u)]) (st' := [.int x, .int y]) rfl ?_
      refine mi_ic_lt okX8_scratch rfl rfl (fun c_12 => ?_) (fun c_12 => ?_)
      · refine mi_mkx okX8_scratch (mc := 0) (ms := 0) rfl rfl rfl rfl xw_156 (by decide) (Nat.le_of_ble_eq_true rfl) ?_
        exact mi_athrow okX8_scratch rfl (mi_TX.out ⟨(show 6 ≤ h.1 by have := hw.z; omega), Nat.lt_succ_self _, mi_psh_self⟩ ⟨rfl, rfl⟩ (no_h rfl))
      · refine mi_blk okX8_scratch 2 (pc' := 18) (lv' := [(0, .ref B), (1, .int x), (2, .int y), (3, .int z), (4, .int u)]) (st' := [.int 30, .int y]) rfl ?_
        refine mi_ic_lt okX8_scratch rfl rfl (fun c_18 => absurd c_18 (i_nlt ((hx.resolve_left (fun q => q.elim (fun q => q.elim c_1 c_7) c_12))))) (fun c_18 => ?_)
        refine mi_mkx okX8_scratch (mc := 0) (ms := 0) rfl rfl rfl rfl xw_156 (by decide) (Nat.le_of_ble_eq_true rfl) ?_
        exact mi_athrow okX8_scratch rfl (mi_TX.out ⟨(show 6 ≤ h.1 by have := hw.z; omega), Nat.lt_succ_self _, mi_psh_self⟩ ⟨rfl, rfl⟩ (no_h rfl))
set_option maxHeartbeats 4000000 in
set_option maxRecDepth 100000 in
theorem x_scratch_a {X : mi_X} {h : mi_H} {B : Nat} (hw : ph_W B ph_0 (fun _ _ => 0) (fun _ _ => 0) h) {x y z u : Int32} (h1 : ¬ x < 0) (h2 : ¬ (30 : Int32) ≤ x) (h3 : ¬ y < x) (h4 : y < 30) (hx : ((z < 0 ∨ (359 : Int32) < z) ∨ u < z) ∨ (359 : Int32) < u) : mi_SX pP X kX8_scratch 6 [.ref B, .int x, .int y, .int z, .int u] h 1 6 (fun _ _ => False) (xq 11 h) := by
  refine exX8_scratch (Nat.le_of_ble_eq_true rfl) ?_
  refine mi_blk okX8_scratch 1 (pc' := 1) (lv' := [(0, .ref B), (1, .int x), (2, .int y), (3, .int z), (4, .int u)]) (st' := [.int x]) rfl ?_
  refine mi_if_lt okX8_scratch rfl rfl (fun c_1 => absurd c_1 h1) (fun c_1 => ?_)
  refine mi_blk okX8_scratch 2 (pc' := 7) (lv' := [(0, .ref B), (1, .int x), (2, .int y), (3, .int z), (4, .int u)]) (st' := [.int 30, .int x]) rfl ?_
  refine mi_ic_ge okX8_scratch rfl rfl (fun c_7 => absurd c_7 h2) (fun c_7 => ?_)
  refine mi_blk okX8_scratch 2 (pc' := 12) (lv' := [(0, .ref B), (1, .int x), (2, .int y), (3, .int z), (4, .int u)]) (st' := [.int x, .int y]) rfl ?_
  refine mi_ic_lt okX8_scratch rfl rfl (fun c_12 => absurd c_12 h3) (fun c_12 => ?_)
  refine mi_blk okX8_scratch 2 (pc' := 18) (lv' := [(0, .ref B), (1, .int x), (2, .int y), (3, .int z), (4, .int u)]) (st' := [.int 30, .int y]) rfl ?_
  refine mi_ic_lt okX8_scratch rfl rfl (fun c_18 => ?_) (fun c_18 => absurd h4 c_18)
  refine mi_blk okX8_scratch 1 (pc' := 32) (lv' := [(0, .ref B), (1, .int x), (2, .int y), (3, .int z), (4, .int u)]) (st' := [.int z]) rfl ?_
  refine mi_if_lt okX8_scratch rfl rfl (fun c_32 => ?_) (fun c_32 => ?_)
  · refine mi_mkx okX8_scratch (mc := 0) (ms := 0) rfl rfl rfl rfl xw_158 (by decide) (Nat.le_of_ble_eq_true rfl) ?_
    exact mi_athrow okX8_scratch rfl (mi_TX.out ⟨(show 6 ≤ h.1 by have := hw.z; omega), Nat.lt_succ_self _, mi_psh_self⟩ ⟨rfl, rfl⟩ (no_h rfl))
  · refine mi_blk okX8_scratch 2 (pc' := 39) (lv' := [(0, .ref B), (1, .int x), (2, .int y), (3, .int z), (4, .int u)]) (st' := [.int 359, .int z]) rfl ?_
    refine mi_ic_gt okX8_scratch rfl rfl (fun c_39 => ?_) (fun c_39 => ?_)
    · refine mi_mkx okX8_scratch (mc := 0) (ms := 0) rfl rfl rfl rfl xw_158 (by decide) (Nat.le_of_ble_eq_true rfl) ?_
      exact mi_athrow okX8_scratch rfl (mi_TX.out ⟨(show 6 ≤ h.1 by have := hw.z; omega), Nat.lt_succ_self _, mi_psh_self⟩ ⟨rfl, rfl⟩ (no_h rfl))
    · refine mi_blk okX8_scratch 2 (pc' := 45) (lv' := [(0, .ref B), (1, .int x), (2, .int y), (3, .int z), (4, .int u)]) (st' := [.int z, .int u]) rfl ?_
      refine mi_ic_lt okX8_scratch rfl rfl (fun c_45 => ?_) (fun c_45 => ?_)
      · refine mi_mkx okX8_scratch (mc := 0) (ms := 0) rfl rfl rfl rfl xw_158 (by decide) (Nat.le_of_ble_eq_true rfl) ?_
        exact mi_athrow okX8_scratch rfl (mi_TX.out ⟨(show 6 ≤ h.1 by have := hw.z; omega), Nat.lt_succ_self _, mi_psh_self⟩ ⟨rfl, rfl⟩ (no_h rfl))
      · refine mi_blk okX8_scratch 2 (pc' := 53) (lv' := [(0, .ref B), (1, .int x), (2, .int y), (3, .int z), (4, .int u)]) (st' := [.int 359, .int u]) rfl ?_
        refine mi_ic_le okX8_scratch rfl rfl (fun c_53 => absurd c_53 (i_nle (hx.resolve_left (fun q => q.elim (fun q => q.elim c_32 c_39) c_45)))) (fun c_53 => ?_)
        refine mi_mkx okX8_scratch (mc := 0) (ms := 0) rfl rfl rfl rfl xw_158 (by decide) (Nat.le_of_ble_eq_true rfl) ?_
        exact mi_athrow okX8_scratch rfl (mi_TX.out ⟨(show 6 ≤ h.1 by have := hw.z; omega), Nat.lt_succ_self _, mi_psh_self⟩ ⟨rfl, rfl⟩ (no_h rfl))
set_option maxHeartbeats 4000000 in
set_option maxRecDepth 100000 in
theorem x_rot {X : mi_X} {h : mi_H} {B : Nat} (hw : ph_W B ph_0 (fun _ _ => 0) (fun _ _ => 0) h) {x : Int32} (hx : x < 0 ∨ (999 : Int32) < x) : mi_SX pP X kX8_rot 6 [.ref B, .int x] h 1 6 (fun _ _ => False) (xq 11 h) := by
  refine exX8_rot (Nat.le_of_ble_eq_true rfl) ?_
  refine mi_blk okX8_rot 1 (pc' := 1) (lv' := [(0, .ref B), (1, .int x)]) (st' := [.int x]) rfl ?_
  refine mi_if_lt okX8_rot rfl rfl (fun c_1 => ?_) (fun c_1 => ?_)
  · refine mi_mkx okX8_rot (mc := 0) (ms := 0) rfl rfl rfl rfl xw_176 (by decide) (Nat.le_of_ble_eq_true rfl) ?_
    exact mi_athrow okX8_rot rfl (mi_TX.out ⟨(show 6 ≤ h.1 by have := hw.z; omega), Nat.lt_succ_self _, mi_psh_self⟩ ⟨rfl, rfl⟩ (no_h rfl))
  · refine mi_blk okX8_rot 2 (pc' := 8) (lv' := [(0, .ref B), (1, .int x)]) (st' := [.int 999, .int x]) rfl ?_
    refine mi_ic_le okX8_rot rfl rfl (fun c_8 => absurd c_8 (i_nle (hx.resolve_left c_1))) (fun c_8 => ?_)
    refine mi_mkx okX8_rot (mc := 0) (ms := 0) rfl rfl rfl rfl xw_176 (by decide) (Nat.le_of_ble_eq_true rfl) ?_
    exact mi_athrow okX8_rot rfl (mi_TX.out ⟨(show 6 ≤ h.1 by have := hw.z; omega), Nat.lt_succ_self _, mi_psh_self⟩ ⟨rfl, rfl⟩ (no_h rfl))
set_option maxHeartbeats 4000000 in
set_option maxRecDepth 100000 in
theorem x_many {X : mi_X} {h : mi_H} {B : Nat} (hw : ph_W B ph_0 (fun _ _ => 0) (fun _ _ => 0) h) {x : Int32} (hx : x.toInt < 0 ∨ 12 < x.toInt) : mi_SX pP X kX8_many 6 [.ref B, .int x] h 1 6 (fun _ _ => False) (xq 11 h) := by
  refine exX8_many (Nat.le_of_ble_eq_true rfl) ?_
  refine mi_blk okX8_many 1 (pc' := 1) (lv' := [(0, .ref B), (1, .int x)]) (st' := [.int x]) rfl ?_
  refine mi_swout swX8_many_1 hx rfl ?_
  refine mi_mkxW okX8_many (mc := 0) (ms := 0) rfl rfl rfl rfl xw_301 (by decide) (Nat.le_of_ble_eq_true rfl) ?_
  exact mi_athrow okX8_many rfl (mi_TX.out ⟨(show 6 ≤ h.1 by have := hw.z; omega), Nat.lt_succ_self _, mi_psh_self⟩ ⟨rfl, rfl⟩ (no_h rfl))
set_option maxHeartbeats 4000000 in
set_option maxRecDepth 100000 in
theorem x_ofSector_w {X : mi_X} {h : mi_H} {B : Nat} (hw : ph_W B ph_0 (fun _ _ => 0) (fun _ _ => 0) h) {k : Nat} (hk : k < 240) {y : Int32} (hy : y.toInt < 0 ∨ 8 < y.toInt) : mi_SX pP X kX8_ofSector 7 [.ref B, .int (nI k), .int y] h 1 6 (fun _ _ => False) (xq 11 h) := by
  refine exX8_ofSector (Nat.le_of_ble_eq_true rfl) ?_
  refine mi_blk okX8_ofSector 1 (pc' := 1) (lv' := [(0, .ref B), (1, .int (nI k)), (2, .int y)]) (st' := [.int (nI k)]) rfl ?_
  refine mi_callS okX8_ofSector (mc := 1) (ms := 6) (mc' := 0) (ms' := 0) (As := [.int (nI k)]) (st := []) rfl cs_RX8_188 rfl (by decide) (Nat.le_of_ble_eq_true rfl) (c_checkSector hk) (fun r h1 q => ?_)
  obtain ⟨rfl, e9⟩ := q; have e9 := e9.symm; subst e9
  change mi_WX _ pP X kX8_ofSector 7 1 6 4 [(0, .ref B), (1, .int (nI k)), (2, .int y)] [] h _
  refine mi_blk okX8_ofSector 1 (pc' := 5) (lv' := [(0, .ref B), (1, .int (nI k)), (2, .int y)]) (st' := [.ref B]) rfl ?_
  refine mi_getf okX8_ofSector rfl fg_RX8_11 (show 6 ≤ _ by have := hw.z; omega) (show _ < h.1 by have := hw.z; omega) hw.ph (v := .ref (B + 1)) rfl ?_
  refine mi_blk okX8_ofSector 1 (pc' := 9) (lv' := [(0, .ref B), (1, .int (nI k)), (2, .int y)]) (st' := [.int (nI k), .ref (B + 1)]) rfl ?_
  refine ph_aaS okX8_ofSector (s := k) rfl hw hk ?_
  refine mi_blk okX8_ofSector 2 (pc' := 12) (lv' := [(3, .ref (B + 30 + 2 * k)), (0, .ref B), (1, .int (nI k)), (2, .int y)]) (st' := [.int y]) rfl ?_
  refine mi_swout swX8_ofSector_12 hy rfl ?_
  refine mi_mkx okX8_ofSector (mc := 0) (ms := 0) rfl rfl rfl rfl xw_236 (by decide) (Nat.le_of_ble_eq_true rfl) ?_
  exact mi_athrow okX8_ofSector rfl (mi_TX.out ⟨(show 6 ≤ h.1 by have := hw.z; omega), Nat.lt_succ_self _, mi_psh_self⟩ ⟨rfl, rfl⟩ (no_h rfl))
