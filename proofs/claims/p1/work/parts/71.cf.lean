-- a fresh object's answers
/-- nothing outside the object has changed -/
abbrev fr (B : Nat) (h h1 : mi_H) : Prop := h1.1 = h.1 ∧ ∀ b, (b < B ∨ B + 518 ≤ b) → h1.2 b = h.2 b
theorem mi_S_eq {P : mi_P} {X : mi_X} {k d : Nat} {avs : List Value} {h : mi_H} {mc ms : Nat} {v v' : Int32} {R : mi_H → Prop} (e : v = v') (s : mi_S P X k d avs h mc ms (fun r h1 => r = some (.int v) ∧ R h1)) : mi_S P X k d avs h mc ms (fun r h1 => r = some (.int v') ∧ R h1) := e ▸ s
theorem wo0 (x : Int32) : ∀ j, ph_wo ph_0.2.1 x j = 0
  | 0 => rfl
  | j + 1 => (if_pos rfl).trans (wo0 x j)
set_option maxHeartbeats 4000000 in
set_option maxRecDepth 100000 in
theorem l_scr0 {X : mi_X} {h : mi_H} {B : Nat} (hw : ph_W B ph_0 (fun _ _ => 0) (fun _ _ => 0) h) (hX : mi_X23 X) {x y z u : Int32} {Q : Option Value → mi_H → Prop} (hQ : Q (some (.int 0)) h) : ∀ (m t : Nat), t + m = 240 → mi_W pP X kX8_scratch 6 0 0 72 [(6, .int (nI t)), (5, .int 0), (0, .ref B), (1, .int x), (2, .int y), (3, .int z), (4, .int u)] [] h Q := by
  intro m
  induction m with
  | zero =>
    intro t ht
    obtain rfl : t = 240 := by omega
    refine mi_blk okX8_scratch 2 (pc' := 77) (lv' := [(6, .int (nI 240)), (5, .int 0), (0, .ref B), (1, .int x), (2, .int y), (3, .int z), (4, .int u)]) (st' := [.int 240, .int (nI 240)]) rfl ?_
    refine mi_ic_ge okX8_scratch rfl rfl (fun c_77 => ?_) (fun c_77 => absurd (by decide) c_77)
    refine mi_blk okX8_scratch 1 (pc' := 174) (lv' := [(6, .int (nI 240)), (5, .int 0), (0, .ref B), (1, .int x), (2, .int y), (3, .int z), (4, .int u)]) (st' := [.int 0]) rfl ?_
    exact mi_ret_i okX8_scratch rfl rfl rfl hQ
  | succ m ih =>
    intro t ht
    refine mi_blk okX8_scratch 2 (pc' := 77) (lv' := [(6, .int (nI t)), (5, .int 0), (0, .ref B), (1, .int x), (2, .int y), (3, .int z), (4, .int u)]) (st' := [.int 240, .int (nI t)]) rfl ?_
    refine mi_ic_ge okX8_scratch rfl rfl (fun c_77 => absurd c_77 (nI_ge (a := t) (b := 240) (by omega) (by decide))) (fun c_77 => ?_)
    refine mi_blk okX8_scratch 1 (pc' := 82) (lv' := [(6, .int (nI t)), (5, .int 0), (0, .ref B), (1, .int x), (2, .int y), (3, .int z), (4, .int u)]) (st' := [.int (nI t)]) rfl ?_
    refine mi_callS okX8_scratch (mc := 0) (ms := 0) (mc' := 0) (ms' := 0) (As := [.int (nI t)]) (st := []) rfl cs_RX8_160 rfl (by decide) (Nat.le_of_ble_eq_true rfl) (c_turnOf hX) (fun r h1 q => ?_)
    obtain ⟨rfl, e9⟩ := q; have e9 := e9.symm; subst e9
    change mi_WX _ pP X kX8_scratch 6 0 0 85 [(6, .int (nI t)), (5, .int 0), (0, .ref B), (1, .int x), (2, .int y), (3, .int z), (4, .int u)] [.int (sp_turn (nI t))] h _
    refine mi_blk okX8_scratch 2 (pc' := 89) (lv' := [(7, .int (sp_turn (nI t))), (6, .int (nI t)), (5, .int 0), (0, .ref B), (1, .int x), (2, .int y), (3, .int z), (4, .int u)]) (st' := [.int (nI t)]) rfl ?_
    refine mi_callS okX8_scratch (mc := 0) (ms := 0) (mc' := 0) (ms' := 0) (As := [.int (nI t)]) (st := []) rfl cs_RX8_165 rfl (by decide) (Nat.le_of_ble_eq_true rfl) (c_angleOf hX (k := t) (by omega)) (fun r h1 q => ?_)
    obtain ⟨rfl, e9⟩ := q; have e9 := e9.symm; subst e9
    change mi_WX _ pP X kX8_scratch 6 0 0 92 [(7, .int (sp_turn (nI t))), (6, .int (nI t)), (5, .int 0), (0, .ref B), (1, .int x), (2, .int y), (3, .int z), (4, .int u)] [.double (sp_ang (nI t))] h _
    refine mi_blk okX8_scratch 2 (pc' := 95) (lv' := [(8, .double (sp_ang (nI t))), (7, .int (sp_turn (nI t))), (6, .int (nI t)), (5, .int 0), (0, .ref B), (1, .int x), (2, .int y), (3, .int z), (4, .int u)]) (st' := [.ref B]) rfl ?_
    refine mi_getf okX8_scratch rfl fg_RX8_11 (show 6 ≤ _ by have := hw.z; omega) (show _ < h.1 by have := hw.z; omega) hw.ph (v := .ref (B + 1)) rfl ?_
    refine mi_blk okX8_scratch 1 (pc' := 100) (lv' := [(8, .double (sp_ang (nI t))), (7, .int (sp_turn (nI t))), (6, .int (nI t)), (5, .int 0), (0, .ref B), (1, .int x), (2, .int y), (3, .int z), (4, .int u)]) (st' := [.int (nI t), .ref (B + 1)]) rfl ?_
    refine ph_aaS okX8_scratch (s := t) rfl hw (by omega) ?_
    refine mi_getf okX8_scratch rfl fg_RX8_169 (show 6 ≤ _ by have := hw.z; omega) (show _ < h.1 by have := hw.z; omega) (hw.se t (by omega)) (v := .int 0) rfl ?_
    refine mi_if_eq okX8_scratch rfl rfl (fun c_104 => ?_) (fun c_104 => absurd (by decide) c_104)
    refine mi_blk okX8_scratch 2 (pc' := 72) (lv' := [(6, .int ((nI t) + 1)), (8, .double (sp_ang (nI t))), (7, .int (sp_turn (nI t))), (5, .int 0), (0, .ref B), (1, .int x), (2, .int y), (3, .int z), (4, .int u)]) (st' := []) rfl ?_
    rw [← nI_succ]
    refine mi_WX.locs (lv' := [(6, .int (nI (t + 1))), (5, .int 0), (0, .ref B), (1, .int x), (2, .int y), (3, .int z), (4, .int u)]) (by simp) ?_
    exact ih (t + 1) (by omega)
set_option maxHeartbeats 4000000 in
set_option maxRecDepth 100000 in
theorem f_scratch {X : mi_X} {h : mi_H} {B : Nat} (hw : ph_W B ph_0 (fun _ _ => 0) (fun _ _ => 0) h) (hX : mi_X23 X) {x y z u : Int32} (h1 : ¬ x < 0) (h2 : ¬ (30 : Int32) ≤ x) (h3 : ¬ y < x) (h4 : y < 30) (h5 : ¬ z < 0) (h6 : ¬ (359 : Int32) < z) (h7 : ¬ u < z) (h8 : u ≤ (359 : Int32)) : mi_S pP X kX8_scratch 6 [.ref B, .int x, .int y, .int z, .int u] h 0 0 (fun r h1 => r = some (.int 0) ∧ h1 = h) := by
  refine enX8_scratch (Nat.le_of_ble_eq_true rfl) ?_
  refine mi_blk okX8_scratch 1 (pc' := 1) (lv' := [(0, .ref B), (1, .int x), (2, .int y), (3, .int z), (4, .int u)]) (st' := [.int x]) rfl ?_
  refine mi_if_lt okX8_scratch rfl rfl (fun c_1 => absurd c_1 h1) (fun c_1 => ?_)
  refine mi_blk okX8_scratch 2 (pc' := 7) (lv' := [(0, .ref B), (1, .int x), (2, .int y), (3, .int z), (4, .int u)]) (st' := [.int 30, .int x]) rfl ?_
  refine mi_ic_ge okX8_scratch rfl rfl (fun c_7 => absurd c_7 h2) (fun c_7 => ?_)
  refine mi_blk okX8_scratch 2 (pc' := 12) (lv' := [(0, .ref B), (1, .int x), (2, .int y), (3, .int z), (4, .int u)]) (st' := [.int x, .int y]) rfl ?_
  refine mi_ic_lt okX8_scratch rfl rfl (fun c_12 => absurd c_12 h3) (fun c_12 => ?_)
  refine mi_blk okX8_scratch 2 (pc' := 18) (lv' := [(0, .ref B), (1, .int x), (2, .int y), (3, .int z), (4, .int u)]) (st' := [.int 30, .int y]) rfl ?_
  refine mi_ic_lt okX8_scratch rfl rfl (fun c_18 => ?_) (fun c_18 => absurd h4 c_18)
  refine mi_blk okX8_scratch 1 (pc' := 32) (lv' := [(0, .ref B), (1, .int x), (2, .int y), (3, .int z), (4, .int u)]) (st' := [.int z]) rfl ?_
  refine mi_if_lt okX8_scratch rfl rfl (fun c_32 => absurd c_32 h5) (fun c_32 => ?_)
  refine mi_blk okX8_scratch 2 (pc' := 39) (lv' := [(0, .ref B), (1, .int x), (2, .int y), (3, .int z), (4, .int u)]) (st' := [.int 359, .int z]) rfl ?_
  refine mi_ic_gt okX8_scratch rfl rfl (fun c_39 => absurd c_39 h6) (fun c_39 => ?_)
  refine mi_blk okX8_scratch 2 (pc' := 45) (lv' := [(0, .ref B), (1, .int x), (2, .int y), (3, .int z), (4, .int u)]) (st' := [.int z, .int u]) rfl ?_
  refine mi_ic_lt okX8_scratch rfl rfl (fun c_45 => absurd c_45 h7) (fun c_45 => ?_)
  refine mi_blk okX8_scratch 2 (pc' := 53) (lv' := [(0, .ref B), (1, .int x), (2, .int y), (3, .int z), (4, .int u)]) (st' := [.int 359, .int u]) rfl ?_
  refine mi_ic_le okX8_scratch rfl rfl (fun c_53 => ?_) (fun c_53 => absurd h8 c_53)
  refine mi_blk okX8_scratch 4 (pc' := 72) (lv' := [(6, .int 0), (5, .int 0), (0, .ref B), (1, .int x), (2, .int y), (3, .int z), (4, .int u)]) (st' := []) rfl ?_
  change mi_WX _ pP X kX8_scratch 6 0 0 72 [(6, .int (nI 0)), (5, .int 0), (0, .ref B), (1, .int x), (2, .int y), (3, .int z), (4, .int u)] [] h _
  exact l_scr0 hw hX ⟨rfl, rfl⟩ 240 0 rfl
set_option maxHeartbeats 4000000 in
set_option maxRecDepth 100000 in
theorem l_rot0 {X : mi_X} {h : mi_H} {B : Nat} (hw : ph_W B ph_0 (fun _ _ => 0) (fun _ _ => 0) h) {x : Int32} {Q : Option Value → mi_H → Prop} (hQ : Q (some (.int 0)) h) : ∀ (m t : Nat), t + m = 240 → mi_W pP X kX8_rot 6 0 0 25 [(3, .int (nI t)), (2, .int 0), (0, .ref B), (1, .int x)] [] h Q := by
  intro m
  induction m with
  | zero =>
    intro t ht
    obtain rfl : t = 240 := by omega
    refine mi_blk okX8_rot 2 (pc' := 29) (lv' := [(3, .int (nI 240)), (2, .int 0), (0, .ref B), (1, .int x)]) (st' := [.int 240, .int (nI 240)]) rfl ?_
    refine mi_ic_ge okX8_rot rfl rfl (fun c_29 => ?_) (fun c_29 => absurd (by decide) c_29)
    refine mi_blk okX8_rot 1 (pc' := 107) (lv' := [(3, .int (nI 240)), (2, .int 0), (0, .ref B), (1, .int x)]) (st' := [.int 0]) rfl ?_
    exact mi_ret_i okX8_rot rfl rfl rfl hQ
  | succ m ih =>
    intro t ht
    refine mi_blk okX8_rot 2 (pc' := 29) (lv' := [(3, .int (nI t)), (2, .int 0), (0, .ref B), (1, .int x)]) (st' := [.int 240, .int (nI t)]) rfl ?_
    refine mi_ic_ge okX8_rot rfl rfl (fun c_29 => absurd c_29 (nI_ge (a := t) (b := 240) (by omega) (by decide))) (fun c_29 => ?_)
    refine mi_blk okX8_rot 1 (pc' := 33) (lv' := [(3, .int (nI t)), (2, .int 0), (0, .ref B), (1, .int x)]) (st' := [.ref B]) rfl ?_
    refine mi_getf okX8_rot rfl fg_RX8_11 (show 6 ≤ _ by have := hw.z; omega) (show _ < h.1 by have := hw.z; omega) hw.ph (v := .ref (B + 1)) rfl ?_
    refine mi_blk okX8_rot 1 (pc' := 37) (lv' := [(3, .int (nI t)), (2, .int 0), (0, .ref B), (1, .int x)]) (st' := [.int (nI t), .ref (B + 1)]) rfl ?_
    refine ph_aaS okX8_rot (s := t) rfl hw (by omega) ?_
    refine mi_getf okX8_rot rfl fg_RX8_169 (show 6 ≤ _ by have := hw.z; omega) (show _ < h.1 by have := hw.z; omega) (hw.se t (by omega)) (v := .int 0) rfl ?_
    refine mi_if_eq okX8_rot rfl rfl (fun c_41 => ?_) (fun c_41 => absurd (by decide) c_41)
    refine mi_blk okX8_rot 3 (pc' := 63) (lv' := [(4, .int 0), (3, .int (nI t)), (2, .int 0), (0, .ref B), (1, .int x)]) (st' := [.int 0]) rfl ?_
    refine mi_if_eq okX8_rot rfl rfl (fun c_63 => ?_) (fun c_63 => absurd (by decide) c_63)
    refine mi_blk okX8_rot 2 (pc' := 25) (lv' := [(3, .int ((nI t) + 1)), (4, .int 0), (2, .int 0), (0, .ref B), (1, .int x)]) (st' := []) rfl ?_
    rw [← nI_succ]
    refine mi_WX.locs (lv' := [(3, .int (nI (t + 1))), (2, .int 0), (0, .ref B), (1, .int x)]) (by simp) ?_
    exact ih (t + 1) (by omega)
set_option maxHeartbeats 4000000 in
set_option maxRecDepth 100000 in
theorem f_rot {X : mi_X} {h : mi_H} {B : Nat} (hw : ph_W B ph_0 (fun _ _ => 0) (fun _ _ => 0) h) {x : Int32} (h1 : ¬ x < 0) (h2 : x ≤ (999 : Int32)) : mi_S pP X kX8_rot 6 [.ref B, .int x] h 0 0 (fun r h1 => r = some (.int 0) ∧ h1 = h) := by
  refine enX8_rot (Nat.le_of_ble_eq_true rfl) ?_
  refine mi_blk okX8_rot 1 (pc' := 1) (lv' := [(0, .ref B), (1, .int x)]) (st' := [.int x]) rfl ?_
  refine mi_if_lt okX8_rot rfl rfl (fun c_1 => absurd c_1 h1) (fun c_1 => ?_)
  refine mi_blk okX8_rot 2 (pc' := 8) (lv' := [(0, .ref B), (1, .int x)]) (st' := [.int 999, .int x]) rfl ?_
  refine mi_ic_le okX8_rot rfl rfl (fun c_8 => ?_) (fun c_8 => absurd h2 c_8)
  refine mi_blk okX8_rot 4 (pc' := 25) (lv' := [(3, .int 0), (2, .int 0), (0, .ref B), (1, .int x)]) (st' := []) rfl ?_
  change mi_WX _ pP X kX8_rot 6 0 0 25 [(3, .int (nI 0)), (2, .int 0), (0, .ref B), (1, .int x)] [] h _
  exact l_rot0 hw ⟨rfl, rfl⟩ 240 0 rfl
set_option maxHeartbeats 4000000 in
set_option maxRecDepth 100000 in
theorem f_tray {X : mi_X} {h : mi_H} {B : Nat} (hw : ph_W B ph_0 (fun _ _ => 0) (fun _ _ => 0) h) {v : Int32} (hv : v = 0 ∨ v = 1) : mi_S pP X kX8_tray 0 [.ref B, .int v] h 0 0 (fun r h1 => r = some (.int 0) ∧ fr B h h1) := by
  refine enX8_tray (Nat.le_of_ble_eq_true rfl) ?_
  refine mi_blk okX8_tray 1 (pc' := 1) (lv' := [(0, .ref B), (1, .int v)]) (st' := [.ref B]) rfl ?_
  refine mi_getf okX8_tray rfl fg_RX8_31 (show 6 ≤ _ by have := hw.z; omega) (show _ < h.1 by have := hw.z; omega) hw.ph (v := .ref (B + 26)) rfl ?_
  refine mi_getf okX8_tray rfl fg_RX8_182 (show 6 ≤ _ by have := hw.z; omega) (show _ < h.1 by have := hw.z; omega) hw.dr (v := .int 0) rfl ?_
  refine mi_blk okX8_tray 2 (pc' := 9) (lv' := [(2, .int 0), (0, .ref B), (1, .int v)]) (st' := [.ref B]) rfl ?_
  refine mi_getf okX8_tray rfl fg_RX8_31 (show 6 ≤ _ by have := hw.z; omega) (show _ < h.1 by have := hw.z; omega) hw.ph (v := .ref (B + 26)) rfl ?_
  refine mi_blk okX8_tray 1 (pc' := 13) (lv' := [(2, .int 0), (0, .ref B), (1, .int v)]) (st' := [.int v, .ref (B + 26)]) rfl ?_
  refine mi_putf' okX8_tray rfl fd_RX8_182 (show 6 ≤ _ by have := hw.z; omega) (show _ < h.1 by have := hw.z; omega) hw.dr (fs' := [.int (nI 0), .double FP.dconst0, .int 0, .int v, .int 0]) rfl (Nat.le_of_ble_eq_true rfl) (by rcases hv with rfl | rfl <;> rfl) (by rcases hv with rfl | rfl <;> rfl) ?_
  refine mi_blk okX8_tray 1 (pc' := 17) (lv' := [(2, .int 0), (0, .ref B), (1, .int v)]) (st' := [.int 0]) rfl ?_
  exact mi_ret_i okX8_tray rfl rfl rfl ⟨rfl, rfl, fun b hb => mi_set_ne (by have := hw.z; omega)⟩
set_option maxHeartbeats 4000000 in
set_option maxRecDepth 100000 in
theorem f_push {X : mi_X} {h : mi_H} {B : Nat} (hw : ph_W B ph_0 (fun _ _ => 0) (fun _ _ => 0) h) : mi_S pP X kX8_push 0 [.ref B] h 0 0 (fun r h1 => r = some (.int 1) ∧ fr B h h1) := by
  refine enX8_push (Nat.le_of_ble_eq_true rfl) ?_
  refine mi_blk okX8_push 1 (pc' := 1) (lv' := [(0, .ref B)]) (st' := [.ref B]) rfl ?_
  refine mi_getf okX8_push rfl fg_RX8_31 (show 6 ≤ _ by have := hw.z; omega) (show _ < h.1 by have := hw.z; omega) hw.ph (v := .ref (B + 26)) rfl ?_
  refine mi_blk okX8_push 1 (pc' := 5) (lv' := [(0, .ref B)]) (st' := [.ref (B + 26), .ref (B + 26)]) rfl ?_
  refine mi_getf okX8_push rfl fg_RX8_185 (show 6 ≤ _ by have := hw.z; omega) (show _ < h.1 by have := hw.z; omega) hw.dr (v := .int 0) rfl ?_
  refine mi_blk okX8_push 2 (pc' := 10) (lv' := [(0, .ref B)]) (st' := [.int 1, .ref (B + 26)]) rfl ?_
  refine mi_putf' okX8_push rfl fd_RX8_185 (show 6 ≤ _ by have := hw.z; omega) (show _ < h.1 by have := hw.z; omega) hw.dr (fs' := [.int (nI 0), .double FP.dconst0, .int 0, .int 0, .int 1]) rfl (Nat.le_of_ble_eq_true rfl) rfl rfl ?_
  refine mi_blk okX8_push 1 (pc' := 14) (lv' := [(0, .ref B)]) (st' := [.ref B]) rfl ?_
  refine mi_getf okX8_push rfl fg_RX8_31 (show 6 ≤ _ by have := hw.z; omega) (show _ < h.1 by have := hw.z; omega) ((mi_set_ne (by have := hw.z; omega)).trans hw.ph) (v := .ref (B + 26)) rfl ?_
  refine mi_getf okX8_push rfl fg_RX8_185 (show 6 ≤ _ by have := hw.z; omega) (show _ < h.1 by have := hw.z; omega) mi_set_self (v := .int 1) rfl ?_
  exact mi_ret_i okX8_push rfl rfl rfl ⟨rfl, rfl, fun b hb => mi_set_ne (by have := hw.z; omega)⟩
set_option maxHeartbeats 4000000 in
set_option maxRecDepth 100000 in
theorem f_ofSector_0 {X : mi_X} {h : mi_H} {B : Nat} (hw : ph_W B ph_0 (fun _ _ => 0) (fun _ _ => 0) h) (hX : mi_X23 X) {k : Nat} (hk : k < 240) : mi_S pP X kX8_ofSector 3 [.ref B, .int (nI k), .int 0] h 0 0 (fun r h1 => r = some (.int (-1)) ∧ h1 = h) := by
  refine enX8_ofSector (Nat.le_of_ble_eq_true rfl) ?_
  refine mi_blk okX8_ofSector 1 (pc' := 1) (lv' := [(0, .ref B), (1, .int (nI k)), (2, .int 0)]) (st' := [.int (nI k)]) rfl ?_
  refine mi_callS okX8_ofSector (mc := 0) (ms := 0) (mc' := 0) (ms' := 0) (As := [.int (nI k)]) (st := []) rfl cs_RX8_188 rfl (by decide) (Nat.le_of_ble_eq_true rfl) (c_checkSector hk) (fun r h1 q => ?_)
  obtain ⟨rfl, e9⟩ := q; have e9 := e9.symm; subst e9
  change mi_WX _ pP X kX8_ofSector 3 0 0 4 [(0, .ref B), (1, .int (nI k)), (2, .int 0)] [] h _
  refine mi_blk okX8_ofSector 1 (pc' := 5) (lv' := [(0, .ref B), (1, .int (nI k)), (2, .int 0)]) (st' := [.ref B]) rfl ?_
  refine mi_getf okX8_ofSector rfl fg_RX8_11 (show 6 ≤ _ by have := hw.z; omega) (show _ < h.1 by have := hw.z; omega) hw.ph (v := .ref (B + 1)) rfl ?_
  refine mi_blk okX8_ofSector 1 (pc' := 9) (lv' := [(0, .ref B), (1, .int (nI k)), (2, .int 0)]) (st' := [.int (nI k), .ref (B + 1)]) rfl ?_
  refine ph_aaS okX8_ofSector (s := k) rfl hw hk ?_
  refine mi_blk okX8_ofSector 2 (pc' := 12) (lv' := [(3, .ref (B + 30 + 2 * k)), (0, .ref B), (1, .int (nI k)), (2, .int 0)]) (st' := [.int 0]) rfl ?_
  refine mi_swin swX8_ofSector_12 (x := 0) (by decide) (by decide) rfl rfl ?_
  refine mi_blk okX8_ofSector 2 (pc' := 66) (lv' := [(3, .ref (B + 30 + 2 * k)), (0, .ref B), (1, .int (nI k)), (2, .int 0)]) (st' := [.int (nI k), .ref B]) rfl ?_
  refine mi_callV okX8_ofSector (mc := 0) (ms := 0) (mc' := 0) (ms' := 0) (b := B) (As := [.int (nI k)]) (st := []) rfl cv_RX8_142 rfl (by decide) (show 6 ≤ _ by have := hw.z; omega) (show _ < h.1 by have := hw.z; omega) hw.ph rfl (Nat.le_of_ble_eq_true rfl) (show mi_S pP X kX8_trackOf 2 [.ref B, .int (nI k)] h 0 0 (fun r h1 => r = some (.int (-1)) ∧ h1 = h) from c_trackOf hw (n := 0) (by omega) rfl) (fun r h1 q => ?_)
  obtain ⟨rfl, e9⟩ := q; have e9 := e9.symm; subst e9
  change mi_WX _ pP X kX8_ofSector 3 0 0 69 [(3, .ref (B + 30 + 2 * k)), (0, .ref B), (1, .int (nI k)), (2, .int 0)] [.int (-1)] h _
  exact mi_ret_i okX8_ofSector rfl rfl rfl ⟨rfl, rfl⟩
set_option maxHeartbeats 4000000 in
set_option maxRecDepth 100000 in
theorem f_ofSector_1 {X : mi_X} {h : mi_H} {B : Nat} (hw : ph_W B ph_0 (fun _ _ => 0) (fun _ _ => 0) h) (hX : mi_X23 X) {k : Nat} (hk : k < 240) : mi_S pP X kX8_ofSector 3 [.ref B, .int (nI k), .int 1] h 0 0 (fun r h1 => r = some (.int 0) ∧ h1 = h) := by
  refine enX8_ofSector (Nat.le_of_ble_eq_true rfl) ?_
  refine mi_blk okX8_ofSector 1 (pc' := 1) (lv' := [(0, .ref B), (1, .int (nI k)), (2, .int 1)]) (st' := [.int (nI k)]) rfl ?_
  refine mi_callS okX8_ofSector (mc := 0) (ms := 0) (mc' := 0) (ms' := 0) (As := [.int (nI k)]) (st := []) rfl cs_RX8_188 rfl (by decide) (Nat.le_of_ble_eq_true rfl) (c_checkSector hk) (fun r h1 q => ?_)
  obtain ⟨rfl, e9⟩ := q; have e9 := e9.symm; subst e9
  change mi_WX _ pP X kX8_ofSector 3 0 0 4 [(0, .ref B), (1, .int (nI k)), (2, .int 1)] [] h _
  refine mi_blk okX8_ofSector 1 (pc' := 5) (lv' := [(0, .ref B), (1, .int (nI k)), (2, .int 1)]) (st' := [.ref B]) rfl ?_
  refine mi_getf okX8_ofSector rfl fg_RX8_11 (show 6 ≤ _ by have := hw.z; omega) (show _ < h.1 by have := hw.z; omega) hw.ph (v := .ref (B + 1)) rfl ?_
  refine mi_blk okX8_ofSector 1 (pc' := 9) (lv' := [(0, .ref B), (1, .int (nI k)), (2, .int 1)]) (st' := [.int (nI k), .ref (B + 1)]) rfl ?_
  refine ph_aaS okX8_ofSector (s := k) rfl hw hk ?_
  refine mi_blk okX8_ofSector 2 (pc' := 12) (lv' := [(3, .ref (B + 30 + 2 * k)), (0, .ref B), (1, .int (nI k)), (2, .int 1)]) (st' := [.int 1]) rfl ?_
  refine mi_swin swX8_ofSector_12 (x := 1) (by decide) (by decide) rfl rfl ?_
  refine mi_blk okX8_ofSector 1 (pc' := 71) (lv' := [(3, .ref (B + 30 + 2 * k)), (0, .ref B), (1, .int (nI k)), (2, .int 1)]) (st' := [.ref (B + 30 + 2 * k)]) rfl ?_
  refine mi_getf okX8_ofSector rfl fg_RX8_169 (show 6 ≤ _ by have := hw.z; omega) (show _ < h.1 by have := hw.z; omega) (hw.se k hk) (v := .int 0) rfl ?_
  refine mi_if_eq okX8_ofSector rfl rfl (fun c_74 => ?_) (fun c_74 => absurd (by decide) c_74)
  refine mi_blk okX8_ofSector 1 (pc' := 82) (lv' := [(3, .ref (B + 30 + 2 * k)), (0, .ref B), (1, .int (nI k)), (2, .int 1)]) (st' := [.int 0]) rfl ?_
  exact mi_ret_i okX8_ofSector rfl rfl rfl ⟨rfl, rfl⟩
set_option maxHeartbeats 4000000 in
set_option maxRecDepth 100000 in
theorem f_ofSector_2 {X : mi_X} {h : mi_H} {B : Nat} (hw : ph_W B ph_0 (fun _ _ => 0) (fun _ _ => 0) h) (hX : mi_X23 X) {k : Nat} (hk : k < 240) : mi_S pP X kX8_ofSector 3 [.ref B, .int (nI k), .int 2] h 0 0 (fun r h1 => r = some (.int (ib_bc 0)) ∧ h1 = h) := by
  refine enX8_ofSector (Nat.le_of_ble_eq_true rfl) ?_
  refine mi_blk okX8_ofSector 1 (pc' := 1) (lv' := [(0, .ref B), (1, .int (nI k)), (2, .int 2)]) (st' := [.int (nI k)]) rfl ?_
  refine mi_callS okX8_ofSector (mc := 0) (ms := 0) (mc' := 0) (ms' := 0) (As := [.int (nI k)]) (st := []) rfl cs_RX8_188 rfl (by decide) (Nat.le_of_ble_eq_true rfl) (c_checkSector hk) (fun r h1 q => ?_)
  obtain ⟨rfl, e9⟩ := q; have e9 := e9.symm; subst e9
  change mi_WX _ pP X kX8_ofSector 3 0 0 4 [(0, .ref B), (1, .int (nI k)), (2, .int 2)] [] h _
  refine mi_blk okX8_ofSector 1 (pc' := 5) (lv' := [(0, .ref B), (1, .int (nI k)), (2, .int 2)]) (st' := [.ref B]) rfl ?_
  refine mi_getf okX8_ofSector rfl fg_RX8_11 (show 6 ≤ _ by have := hw.z; omega) (show _ < h.1 by have := hw.z; omega) hw.ph (v := .ref (B + 1)) rfl ?_
  refine mi_blk okX8_ofSector 1 (pc' := 9) (lv' := [(0, .ref B), (1, .int (nI k)), (2, .int 2)]) (st' := [.int (nI k), .ref (B + 1)]) rfl ?_
  refine ph_aaS okX8_ofSector (s := k) rfl hw hk ?_
  refine mi_blk okX8_ofSector 2 (pc' := 12) (lv' := [(3, .ref (B + 30 + 2 * k)), (0, .ref B), (1, .int (nI k)), (2, .int 2)]) (st' := [.int 2]) rfl ?_
  refine mi_swin swX8_ofSector_12 (x := 2) (by decide) (by decide) rfl rfl ?_
  refine mi_blk okX8_ofSector 1 (pc' := 84) (lv' := [(3, .ref (B + 30 + 2 * k)), (0, .ref B), (1, .int (nI k)), (2, .int 2)]) (st' := [.ref (B + 30 + 2 * k)]) rfl ?_
  refine mi_getf okX8_ofSector rfl fg_RX8_210 (show 6 ≤ _ by have := hw.z; omega) (show _ < h.1 by have := hw.z; omega) (hw.se k hk) (v := .ref (B + 31 + 2 * k)) rfl ?_
  refine mi_getf okX8_ofSector rfl fg_RX8_214 (show 6 ≤ _ by have := hw.z; omega) (show _ < h.1 by have := hw.z; omega) (hw.bl k hk) (v := .int 0) rfl ?_
  refine mi_callS okX8_ofSector (mc := 0) (ms := 0) (mc' := 0) (ms' := 0) (As := [.int 0]) (st := []) rfl cs_RX8_219 rfl (by decide) (Nat.le_of_ble_eq_true rfl) c_bitCount (fun r h1 q => ?_)
  obtain ⟨rfl, e9⟩ := q; have e9 := e9.symm; subst e9
  change mi_WX _ pP X kX8_ofSector 3 0 0 93 [(3, .ref (B + 30 + 2 * k)), (0, .ref B), (1, .int (nI k)), (2, .int 2)] [.int (ib_bc 0)] h _
  exact mi_ret_i okX8_ofSector rfl rfl rfl ⟨rfl, rfl⟩
set_option maxHeartbeats 4000000 in
set_option maxRecDepth 100000 in
theorem f_ofSector_3 {X : mi_X} {h : mi_H} {B : Nat} (hw : ph_W B ph_0 (fun _ _ => 0) (fun _ _ => 0) h) (hX : mi_X23 X) {k : Nat} (hk : k < 240) : mi_S pP X kX8_ofSector 3 [.ref B, .int (nI k), .int 3] h 0 0 (fun r h1 => r = some (.int 2) ∧ h1 = h) := by
  refine enX8_ofSector (Nat.le_of_ble_eq_true rfl) ?_
  refine mi_blk okX8_ofSector 1 (pc' := 1) (lv' := [(0, .ref B), (1, .int (nI k)), (2, .int 3)]) (st' := [.int (nI k)]) rfl ?_
  refine mi_callS okX8_ofSector (mc := 0) (ms := 0) (mc' := 0) (ms' := 0) (As := [.int (nI k)]) (st := []) rfl cs_RX8_188 rfl (by decide) (Nat.le_of_ble_eq_true rfl) (c_checkSector hk) (fun r h1 q => ?_)
  obtain ⟨rfl, e9⟩ := q; have e9 := e9.symm; subst e9
  change mi_WX _ pP X kX8_ofSector 3 0 0 4 [(0, .ref B), (1, .int (nI k)), (2, .int 3)] [] h _
  refine mi_blk okX8_ofSector 1 (pc' := 5) (lv' := [(0, .ref B), (1, .int (nI k)), (2, .int 3)]) (st' := [.ref B]) rfl ?_
  refine mi_getf okX8_ofSector rfl fg_RX8_11 (show 6 ≤ _ by have := hw.z; omega) (show _ < h.1 by have := hw.z; omega) hw.ph (v := .ref (B + 1)) rfl ?_
  refine mi_blk okX8_ofSector 1 (pc' := 9) (lv' := [(0, .ref B), (1, .int (nI k)), (2, .int 3)]) (st' := [.int (nI k), .ref (B + 1)]) rfl ?_
  refine ph_aaS okX8_ofSector (s := k) rfl hw hk ?_
  refine mi_blk okX8_ofSector 2 (pc' := 12) (lv' := [(3, .ref (B + 30 + 2 * k)), (0, .ref B), (1, .int (nI k)), (2, .int 3)]) (st' := [.int 3]) rfl ?_
  refine mi_swin swX8_ofSector_12 (x := 3) (by decide) (by decide) rfl rfl ?_
  refine mi_blk okX8_ofSector 1 (pc' := 95) (lv' := [(3, .ref (B + 30 + 2 * k)), (0, .ref B), (1, .int (nI k)), (2, .int 3)]) (st' := [.ref (B + 30 + 2 * k)]) rfl ?_
  refine mi_getf okX8_ofSector rfl fg_RX8_196 (show 6 ≤ _ by have := hw.z; omega) (show _ < h.1 by have := hw.z; omega) (hw.se k hk) (v := .int 2) rfl ?_
  exact mi_ret_i okX8_ofSector rfl rfl rfl ⟨rfl, rfl⟩
set_option maxHeartbeats 4000000 in
set_option maxRecDepth 100000 in
theorem f_ofSector_4 {X : mi_X} {h : mi_H} {B : Nat} (hw : ph_W B ph_0 (fun _ _ => 0) (fun _ _ => 0) h) (hX : mi_X23 X) {k : Nat} (hk : k < 240) : mi_S pP X kX8_ofSector 3 [.ref B, .int (nI k), .int 4] h 0 0 (fun r h1 => r = some (.int 0) ∧ h1 = h) := by
  refine enX8_ofSector (Nat.le_of_ble_eq_true rfl) ?_
  refine mi_blk okX8_ofSector 1 (pc' := 1) (lv' := [(0, .ref B), (1, .int (nI k)), (2, .int 4)]) (st' := [.int (nI k)]) rfl ?_
  refine mi_callS okX8_ofSector (mc := 0) (ms := 0) (mc' := 0) (ms' := 0) (As := [.int (nI k)]) (st := []) rfl cs_RX8_188 rfl (by decide) (Nat.le_of_ble_eq_true rfl) (c_checkSector hk) (fun r h1 q => ?_)
  obtain ⟨rfl, e9⟩ := q; have e9 := e9.symm; subst e9
  change mi_WX _ pP X kX8_ofSector 3 0 0 4 [(0, .ref B), (1, .int (nI k)), (2, .int 4)] [] h _
  refine mi_blk okX8_ofSector 1 (pc' := 5) (lv' := [(0, .ref B), (1, .int (nI k)), (2, .int 4)]) (st' := [.ref B]) rfl ?_
  refine mi_getf okX8_ofSector rfl fg_RX8_11 (show 6 ≤ _ by have := hw.z; omega) (show _ < h.1 by have := hw.z; omega) hw.ph (v := .ref (B + 1)) rfl ?_
  refine mi_blk okX8_ofSector 1 (pc' := 9) (lv' := [(0, .ref B), (1, .int (nI k)), (2, .int 4)]) (st' := [.int (nI k), .ref (B + 1)]) rfl ?_
  refine ph_aaS okX8_ofSector (s := k) rfl hw hk ?_
  refine mi_blk okX8_ofSector 2 (pc' := 12) (lv' := [(3, .ref (B + 30 + 2 * k)), (0, .ref B), (1, .int (nI k)), (2, .int 4)]) (st' := [.int 4]) rfl ?_
  refine mi_swin swX8_ofSector_12 (x := 4) (by decide) (by decide) rfl rfl ?_
  refine mi_blk okX8_ofSector 1 (pc' := 100) (lv' := [(3, .ref (B + 30 + 2 * k)), (0, .ref B), (1, .int (nI k)), (2, .int 4)]) (st' := [.ref (B + 30 + 2 * k)]) rfl ?_
  refine mi_getf okX8_ofSector rfl fg_RX8_224 (show 6 ≤ _ by have := hw.z; omega) (show _ < h.1 by have := hw.z; omega) (hw.se k hk) (v := .int 0) rfl ?_
  exact mi_ret_i okX8_ofSector rfl rfl rfl ⟨rfl, rfl⟩
set_option maxHeartbeats 4000000 in
set_option maxRecDepth 100000 in
theorem f_ofSector_5 {X : mi_X} {h : mi_H} {B : Nat} (hw : ph_W B ph_0 (fun _ _ => 0) (fun _ _ => 0) h) (hX : mi_X23 X) {k : Nat} (hk : k < 240) : mi_S pP X kX8_ofSector 3 [.ref B, .int (nI k), .int 5] h 0 0 (fun r h1 => r = some (.int 0) ∧ h1 = h) := by
  refine enX8_ofSector (Nat.le_of_ble_eq_true rfl) ?_
  refine mi_blk okX8_ofSector 1 (pc' := 1) (lv' := [(0, .ref B), (1, .int (nI k)), (2, .int 5)]) (st' := [.int (nI k)]) rfl ?_
  refine mi_callS okX8_ofSector (mc := 0) (ms := 0) (mc' := 0) (ms' := 0) (As := [.int (nI k)]) (st := []) rfl cs_RX8_188 rfl (by decide) (Nat.le_of_ble_eq_true rfl) (c_checkSector hk) (fun r h1 q => ?_)
  obtain ⟨rfl, e9⟩ := q; have e9 := e9.symm; subst e9
  change mi_WX _ pP X kX8_ofSector 3 0 0 4 [(0, .ref B), (1, .int (nI k)), (2, .int 5)] [] h _
  refine mi_blk okX8_ofSector 1 (pc' := 5) (lv' := [(0, .ref B), (1, .int (nI k)), (2, .int 5)]) (st' := [.ref B]) rfl ?_
  refine mi_getf okX8_ofSector rfl fg_RX8_11 (show 6 ≤ _ by have := hw.z; omega) (show _ < h.1 by have := hw.z; omega) hw.ph (v := .ref (B + 1)) rfl ?_
  refine mi_blk okX8_ofSector 1 (pc' := 9) (lv' := [(0, .ref B), (1, .int (nI k)), (2, .int 5)]) (st' := [.int (nI k), .ref (B + 1)]) rfl ?_
  refine ph_aaS okX8_ofSector (s := k) rfl hw hk ?_
  refine mi_blk okX8_ofSector 2 (pc' := 12) (lv' := [(3, .ref (B + 30 + 2 * k)), (0, .ref B), (1, .int (nI k)), (2, .int 5)]) (st' := [.int 5]) rfl ?_
  refine mi_swin swX8_ofSector_12 (x := 5) (by decide) (by decide) rfl rfl ?_
  refine mi_blk okX8_ofSector 1 (pc' := 105) (lv' := [(3, .ref (B + 30 + 2 * k)), (0, .ref B), (1, .int (nI k)), (2, .int 5)]) (st' := [.ref (B + 30 + 2 * k)]) rfl ?_
  refine mi_getf okX8_ofSector rfl fg_RX8_227 (show 6 ≤ _ by have := hw.z; omega) (show _ < h.1 by have := hw.z; omega) (hw.se k hk) (v := .int 0) rfl ?_
  exact mi_ret_i okX8_ofSector rfl rfl rfl ⟨rfl, rfl⟩
set_option maxHeartbeats 4000000 in
set_option maxRecDepth 100000 in
theorem f_ofSector_6 {X : mi_X} {h : mi_H} {B : Nat} (hw : ph_W B ph_0 (fun _ _ => 0) (fun _ _ => 0) h) (hX : mi_X23 X) {k : Nat} (hk : k < 240) : mi_S pP X kX8_ofSector 3 [.ref B, .int (nI k), .int 6] h 0 0 (fun r h1 => r = some (.int 0) ∧ h1 = h) := by
  refine enX8_ofSector (Nat.le_of_ble_eq_true rfl) ?_
  refine mi_blk okX8_ofSector 1 (pc' := 1) (lv' := [(0, .ref B), (1, .int (nI k)), (2, .int 6)]) (st' := [.int (nI k)]) rfl ?_
  refine mi_callS okX8_ofSector (mc := 0) (ms := 0) (mc' := 0) (ms' := 0) (As := [.int (nI k)]) (st := []) rfl cs_RX8_188 rfl (by decide) (Nat.le_of_ble_eq_true rfl) (c_checkSector hk) (fun r h1 q => ?_)
  obtain ⟨rfl, e9⟩ := q; have e9 := e9.symm; subst e9
  change mi_WX _ pP X kX8_ofSector 3 0 0 4 [(0, .ref B), (1, .int (nI k)), (2, .int 6)] [] h _
  refine mi_blk okX8_ofSector 1 (pc' := 5) (lv' := [(0, .ref B), (1, .int (nI k)), (2, .int 6)]) (st' := [.ref B]) rfl ?_
  refine mi_getf okX8_ofSector rfl fg_RX8_11 (show 6 ≤ _ by have := hw.z; omega) (show _ < h.1 by have := hw.z; omega) hw.ph (v := .ref (B + 1)) rfl ?_
  refine mi_blk okX8_ofSector 1 (pc' := 9) (lv' := [(0, .ref B), (1, .int (nI k)), (2, .int 6)]) (st' := [.int (nI k), .ref (B + 1)]) rfl ?_
  refine ph_aaS okX8_ofSector (s := k) rfl hw hk ?_
  refine mi_blk okX8_ofSector 2 (pc' := 12) (lv' := [(3, .ref (B + 30 + 2 * k)), (0, .ref B), (1, .int (nI k)), (2, .int 6)]) (st' := [.int 6]) rfl ?_
  refine mi_swin swX8_ofSector_12 (x := 6) (by decide) (by decide) rfl rfl ?_
  refine mi_blk okX8_ofSector 1 (pc' := 110) (lv' := [(3, .ref (B + 30 + 2 * k)), (0, .ref B), (1, .int (nI k)), (2, .int 6)]) (st' := [.ref (B + 30 + 2 * k)]) rfl ?_
  refine mi_getf okX8_ofSector rfl fg_RX8_230 (show 6 ≤ _ by have := hw.z; omega) (show _ < h.1 by have := hw.z; omega) (hw.se k hk) (v := .int 0) rfl ?_
  exact mi_ret_i okX8_ofSector rfl rfl rfl ⟨rfl, rfl⟩
set_option maxHeartbeats 4000000 in
set_option maxRecDepth 100000 in
theorem f_ofSector_7 {X : mi_X} {h : mi_H} {B : Nat} (hw : ph_W B ph_0 (fun _ _ => 0) (fun _ _ => 0) h) (hX : mi_X23 X) {k : Nat} (hk : k < 240) : mi_S pP X kX8_ofSector 3 [.ref B, .int (nI k), .int 7] h 0 0 (fun r h1 => r = some (.int (sp_turn (nI k))) ∧ h1 = h) := by
  refine enX8_ofSector (Nat.le_of_ble_eq_true rfl) ?_
  refine mi_blk okX8_ofSector 1 (pc' := 1) (lv' := [(0, .ref B), (1, .int (nI k)), (2, .int 7)]) (st' := [.int (nI k)]) rfl ?_
  refine mi_callS okX8_ofSector (mc := 0) (ms := 0) (mc' := 0) (ms' := 0) (As := [.int (nI k)]) (st := []) rfl cs_RX8_188 rfl (by decide) (Nat.le_of_ble_eq_true rfl) (c_checkSector hk) (fun r h1 q => ?_)
  obtain ⟨rfl, e9⟩ := q; have e9 := e9.symm; subst e9
  change mi_WX _ pP X kX8_ofSector 3 0 0 4 [(0, .ref B), (1, .int (nI k)), (2, .int 7)] [] h _
  refine mi_blk okX8_ofSector 1 (pc' := 5) (lv' := [(0, .ref B), (1, .int (nI k)), (2, .int 7)]) (st' := [.ref B]) rfl ?_
  refine mi_getf okX8_ofSector rfl fg_RX8_11 (show 6 ≤ _ by have := hw.z; omega) (show _ < h.1 by have := hw.z; omega) hw.ph (v := .ref (B + 1)) rfl ?_
  refine mi_blk okX8_ofSector 1 (pc' := 9) (lv' := [(0, .ref B), (1, .int (nI k)), (2, .int 7)]) (st' := [.int (nI k), .ref (B + 1)]) rfl ?_
  refine ph_aaS okX8_ofSector (s := k) rfl hw hk ?_
  refine mi_blk okX8_ofSector 2 (pc' := 12) (lv' := [(3, .ref (B + 30 + 2 * k)), (0, .ref B), (1, .int (nI k)), (2, .int 7)]) (st' := [.int 7]) rfl ?_
  refine mi_swin swX8_ofSector_12 (x := 7) (by decide) (by decide) rfl rfl ?_
  refine mi_blk okX8_ofSector 1 (pc' := 115) (lv' := [(3, .ref (B + 30 + 2 * k)), (0, .ref B), (1, .int (nI k)), (2, .int 7)]) (st' := [.int (nI k)]) rfl ?_
  refine mi_callS okX8_ofSector (mc := 0) (ms := 0) (mc' := 0) (ms' := 0) (As := [.int (nI k)]) (st := []) rfl cs_RX8_160 rfl (by decide) (Nat.le_of_ble_eq_true rfl) (c_turnOf hX) (fun r h1 q => ?_)
  obtain ⟨rfl, e9⟩ := q; have e9 := e9.symm; subst e9
  change mi_WX _ pP X kX8_ofSector 3 0 0 118 [(3, .ref (B + 30 + 2 * k)), (0, .ref B), (1, .int (nI k)), (2, .int 7)] [.int (sp_turn (nI k))] h _
  exact mi_ret_i okX8_ofSector rfl rfl rfl ⟨rfl, rfl⟩
set_option maxHeartbeats 4000000 in
set_option maxRecDepth 100000 in
theorem f_ofSector_8 {X : mi_X} {h : mi_H} {B : Nat} (hw : ph_W B ph_0 (fun _ _ => 0) (fun _ _ => 0) h) (hX : mi_X23 X) {k : Nat} (hk : k < 240) : mi_S pP X kX8_ofSector 3 [.ref B, .int (nI k), .int 8] h 0 0 (fun r h1 => r = some (.int (sp_pos (nI k))) ∧ h1 = h) := by
  refine enX8_ofSector (Nat.le_of_ble_eq_true rfl) ?_
  refine mi_blk okX8_ofSector 1 (pc' := 1) (lv' := [(0, .ref B), (1, .int (nI k)), (2, .int 8)]) (st' := [.int (nI k)]) rfl ?_
  refine mi_callS okX8_ofSector (mc := 0) (ms := 0) (mc' := 0) (ms' := 0) (As := [.int (nI k)]) (st := []) rfl cs_RX8_188 rfl (by decide) (Nat.le_of_ble_eq_true rfl) (c_checkSector hk) (fun r h1 q => ?_)
  obtain ⟨rfl, e9⟩ := q; have e9 := e9.symm; subst e9
  change mi_WX _ pP X kX8_ofSector 3 0 0 4 [(0, .ref B), (1, .int (nI k)), (2, .int 8)] [] h _
  refine mi_blk okX8_ofSector 1 (pc' := 5) (lv' := [(0, .ref B), (1, .int (nI k)), (2, .int 8)]) (st' := [.ref B]) rfl ?_
  refine mi_getf okX8_ofSector rfl fg_RX8_11 (show 6 ≤ _ by have := hw.z; omega) (show _ < h.1 by have := hw.z; omega) hw.ph (v := .ref (B + 1)) rfl ?_
  refine mi_blk okX8_ofSector 1 (pc' := 9) (lv' := [(0, .ref B), (1, .int (nI k)), (2, .int 8)]) (st' := [.int (nI k), .ref (B + 1)]) rfl ?_
  refine ph_aaS okX8_ofSector (s := k) rfl hw hk ?_
  refine mi_blk okX8_ofSector 2 (pc' := 12) (lv' := [(3, .ref (B + 30 + 2 * k)), (0, .ref B), (1, .int (nI k)), (2, .int 8)]) (st' := [.int 8]) rfl ?_
  refine mi_swin swX8_ofSector_12 (x := 8) (by decide) (by decide) rfl rfl ?_
  refine mi_blk okX8_ofSector 1 (pc' := 120) (lv' := [(3, .ref (B + 30 + 2 * k)), (0, .ref B), (1, .int (nI k)), (2, .int 8)]) (st' := [.int (nI k)]) rfl ?_
  refine mi_callS okX8_ofSector (mc := 0) (ms := 0) (mc' := 0) (ms' := 0) (As := [.int (nI k)]) (st := []) rfl cs_RX8_233 rfl (by decide) (Nat.le_of_ble_eq_true rfl) c_positionOf (fun r h1 q => ?_)
  obtain ⟨rfl, e9⟩ := q; have e9 := e9.symm; subst e9
  change mi_WX _ pP X kX8_ofSector 3 0 0 123 [(3, .ref (B + 30 + 2 * k)), (0, .ref B), (1, .int (nI k)), (2, .int 8)] [.int (sp_pos (nI k))] h _
  exact mi_ret_i okX8_ofSector rfl rfl rfl ⟨rfl, rfl⟩
set_option maxHeartbeats 4000000 in
set_option maxRecDepth 100000 in
theorem f_raw {X : mi_X} {h : mi_H} {B : Nat} (hw : ph_W B ph_0 (fun _ _ => 0) (fun _ _ => 0) h) {k : Nat} (hk : k < 240) : mi_S pP X kX5_raw 0 [.ref (B + 30 + 2 * k)] h 0 0 (fun r h1 => r = some (.long (-1)) ∧ h1 = h) := by
  refine enX5_raw (Nat.le_of_ble_eq_true rfl) ?_
  refine mi_blk okX5_raw 1 (pc' := 1) (lv' := [(0, .ref (B + 30 + 2 * k))]) (st' := [.ref (B + 30 + 2 * k)]) rfl ?_
  refine mi_getf okX5_raw rfl fg_RX5_18 (show 6 ≤ _ by have := hw.z; omega) (show _ < h.1 by have := hw.z; omega) (hw.se k hk) (v := .int 0) rfl ?_
  refine mi_if_eq okX5_raw rfl rfl (fun c_4 => ?_) (fun c_4 => absurd (by decide) c_4)
  refine mi_ldc2 okX5_raw (v := (-1 : Int64)) rfl kc_RX5_32 ?_
  exact mi_ret_l okX5_raw rfl rfl ⟨rfl, rfl⟩
set_option maxHeartbeats 4000000 in
set_option maxRecDepth 100000 in
theorem f_nibbles_0 {X : mi_X} {h : mi_H} {B : Nat} (hw : ph_W B ph_0 (fun _ _ => 0) (fun _ _ => 0) h) {k : Nat} (hk : k < 240) : mi_S pP X kX8_nibbles 2 [.ref B, .int (nI k), .int 0] h 0 0 (fun r h1 => r = some (.long (-1)) ∧ h1 = h) := by
  refine enX8_nibbles (Nat.le_of_ble_eq_true rfl) ?_
  refine mi_blk okX8_nibbles 1 (pc' := 1) (lv' := [(0, .ref B), (1, .int (nI k)), (2, .int 0)]) (st' := [.int (nI k)]) rfl ?_
  refine mi_callS okX8_nibbles (mc := 0) (ms := 0) (mc' := 0) (ms' := 0) (As := [.int (nI k)]) (st := []) rfl cs_RX8_188 rfl (by decide) (Nat.le_of_ble_eq_true rfl) (c_checkSector hk) (fun r h1 q => ?_)
  obtain ⟨rfl, e9⟩ := q; have e9 := e9.symm; subst e9
  change mi_WX _ pP X kX8_nibbles 2 0 0 4 [(0, .ref B), (1, .int (nI k)), (2, .int 0)] [] h _
  refine mi_blk okX8_nibbles 1 (pc' := 5) (lv' := [(0, .ref B), (1, .int (nI k)), (2, .int 0)]) (st' := [.int 0]) rfl ?_
  refine mi_if_eq okX8_nibbles rfl rfl (fun c_5 => ?_) (fun c_5 => absurd (by decide) c_5)
  refine mi_blk okX8_nibbles 1 (pc' := 21) (lv' := [(0, .ref B), (1, .int (nI k)), (2, .int 0)]) (st' := [.ref B]) rfl ?_
  refine mi_getf okX8_nibbles rfl fg_RX8_11 (show 6 ≤ _ by have := hw.z; omega) (show _ < h.1 by have := hw.z; omega) hw.ph (v := .ref (B + 1)) rfl ?_
  refine mi_blk okX8_nibbles 1 (pc' := 25) (lv' := [(0, .ref B), (1, .int (nI k)), (2, .int 0)]) (st' := [.int (nI k), .ref (B + 1)]) rfl ?_
  refine ph_aaS okX8_nibbles (s := k) rfl hw hk ?_
  refine mi_callV okX8_nibbles (mc := 0) (ms := 0) (mc' := 0) (ms' := 0) (b := (B + 30 + 2 * k)) (As := []) (st := []) rfl cv_RX8_242 rfl (by decide) (show 6 ≤ _ by have := hw.z; omega) (show _ < h.1 by have := hw.z; omega) (hw.se k hk) rfl (Nat.le_of_ble_eq_true rfl) (f_raw hw hk) (fun r h1 q => ?_)
  obtain ⟨rfl, e9⟩ := q; have e9 := e9.symm; subst e9
  change mi_WX _ pP X kX8_nibbles 2 0 0 29 [(0, .ref B), (1, .int (nI k)), (2, .int 0)] [.long (-1)] h _
  exact mi_ret_l okX8_nibbles rfl rfl ⟨rfl, rfl⟩
set_option maxHeartbeats 4000000 in
set_option maxRecDepth 100000 in
theorem f_nibbles_1 {X : mi_X} {h : mi_H} {B : Nat} (hw : ph_W B ph_0 (fun _ _ => 0) (fun _ _ => 0) h) {k : Nat} (hk : k < 240) : mi_S pP X kX8_nibbles 2 [.ref B, .int (nI k), .int 1] h 0 0 (fun r h1 => r = some (.long (-1)) ∧ h1 = h) := by
  refine enX8_nibbles (Nat.le_of_ble_eq_true rfl) ?_
  refine mi_blk okX8_nibbles 1 (pc' := 1) (lv' := [(0, .ref B), (1, .int (nI k)), (2, .int 1)]) (st' := [.int (nI k)]) rfl ?_
  refine mi_callS okX8_nibbles (mc := 0) (ms := 0) (mc' := 0) (ms' := 0) (As := [.int (nI k)]) (st := []) rfl cs_RX8_188 rfl (by decide) (Nat.le_of_ble_eq_true rfl) (c_checkSector hk) (fun r h1 q => ?_)
  obtain ⟨rfl, e9⟩ := q; have e9 := e9.symm; subst e9
  change mi_WX _ pP X kX8_nibbles 2 0 0 4 [(0, .ref B), (1, .int (nI k)), (2, .int 1)] [] h _
  refine mi_blk okX8_nibbles 1 (pc' := 5) (lv' := [(0, .ref B), (1, .int (nI k)), (2, .int 1)]) (st' := [.int 1]) rfl ?_
  refine mi_if_eq okX8_nibbles rfl rfl (fun c_5 => absurd c_5 (by decide)) (fun c_5 => ?_)
  refine mi_blk okX8_nibbles 1 (pc' := 9) (lv' := [(0, .ref B), (1, .int (nI k)), (2, .int 1)]) (st' := [.ref B]) rfl ?_
  refine mi_getf okX8_nibbles rfl fg_RX8_11 (show 6 ≤ _ by have := hw.z; omega) (show _ < h.1 by have := hw.z; omega) hw.ph (v := .ref (B + 1)) rfl ?_
  refine mi_blk okX8_nibbles 1 (pc' := 13) (lv' := [(0, .ref B), (1, .int (nI k)), (2, .int 1)]) (st' := [.int (nI k), .ref (B + 1)]) rfl ?_
  refine ph_aaS okX8_nibbles (s := k) rfl hw hk ?_
  refine mi_getf okX8_nibbles rfl fg_RX8_238 (show 6 ≤ _ by have := hw.z; omega) (show _ < h.1 by have := hw.z; omega) (hw.se k hk) (v := .long (-1)) rfl ?_
  refine mi_blk okX8_nibbles 1 (pc' := 29) (lv' := [(0, .ref B), (1, .int (nI k)), (2, .int 1)]) (st' := [.long (-1)]) rfl ?_
  exact mi_ret_l okX8_nibbles rfl rfl ⟨rfl, rfl⟩
set_option maxHeartbeats 4000000 in
set_option maxRecDepth 100000 in
theorem f_place {X : mi_X} {h : mi_H} {B : Nat} (hw : ph_W B ph_0 (fun _ _ => 0) (fun _ _ => 0) h) {k : Nat} (hk : k < 240) {y : Int32} (h1 : ¬ y < 0) (h2 : y < 16) : mi_S pP X kX8_place 2 [.ref B, .int (nI k), .int y] h 0 0 (fun r h1 => r = some (.int (-1)) ∧ h1 = h) := by
  refine enX8_place (Nat.le_of_ble_eq_true rfl) ?_
  refine mi_blk okX8_place 1 (pc' := 1) (lv' := [(0, .ref B), (1, .int (nI k)), (2, .int y)]) (st' := [.int (nI k)]) rfl ?_
  refine mi_callS okX8_place (mc := 0) (ms := 0) (mc' := 0) (ms' := 0) (As := [.int (nI k)]) (st := []) rfl cs_RX8_188 rfl (by decide) (Nat.le_of_ble_eq_true rfl) (c_checkSector hk) (fun r h1 q => ?_)
  obtain ⟨rfl, e9⟩ := q; have e9 := e9.symm; subst e9
  change mi_WX _ pP X kX8_place 2 0 0 4 [(0, .ref B), (1, .int (nI k)), (2, .int y)] [] h _
  refine mi_blk okX8_place 1 (pc' := 5) (lv' := [(0, .ref B), (1, .int (nI k)), (2, .int y)]) (st' := [.int y]) rfl ?_
  refine mi_if_lt okX8_place rfl rfl (fun c_5 => absurd c_5 h1) (fun c_5 => ?_)
  refine mi_blk okX8_place 2 (pc' := 11) (lv' := [(0, .ref B), (1, .int (nI k)), (2, .int y)]) (st' := [.int 16, .int y]) rfl ?_
  refine mi_ic_lt okX8_place rfl rfl (fun c_11 => ?_) (fun c_11 => absurd h2 c_11)
  refine mi_blk okX8_place 1 (pc' := 25) (lv' := [(0, .ref B), (1, .int (nI k)), (2, .int y)]) (st' := [.ref B]) rfl ?_
  refine mi_getf okX8_place rfl fg_RX8_11 (show 6 ≤ _ by have := hw.z; omega) (show _ < h.1 by have := hw.z; omega) hw.ph (v := .ref (B + 1)) rfl ?_
  refine mi_blk okX8_place 1 (pc' := 29) (lv' := [(0, .ref B), (1, .int (nI k)), (2, .int y)]) (st' := [.int (nI k), .ref (B + 1)]) rfl ?_
  refine ph_aaS okX8_place (s := k) rfl hw hk ?_
  refine mi_blk okX8_place 2 (pc' := 32) (lv' := [(3, .ref (B + 30 + 2 * k)), (0, .ref B), (1, .int (nI k)), (2, .int y)]) (st' := [.ref (B + 30 + 2 * k)]) rfl ?_
  refine mi_getf okX8_place rfl fg_RX8_169 (show 6 ≤ _ by have := hw.z; omega) (show _ < h.1 by have := hw.z; omega) (hw.se k hk) (v := .int 0) rfl ?_
  refine mi_if_eq okX8_place rfl rfl (fun c_35 => ?_) (fun c_35 => absurd (by decide) c_35)
  refine mi_blk okX8_place 2 (pc' := 61) (lv' := [(3, .ref (B + 30 + 2 * k)), (0, .ref B), (1, .int (nI k)), (2, .int y)]) (st' := [.int (-1)]) rfl ?_
  exact mi_ret_i okX8_place rfl rfl rfl ⟨rfl, rfl⟩
theorem f_wo {X : mi_X} {h : mi_H} {B : Nat} (hw : ph_W B ph_0 (fun _ _ => 0) (fun _ _ => 0) h) {x : Int32} : mi_S pP X kX8_writtenOf 0 [.ref B, .int x] h 0 0 (fun r h1 => r = some (.int 0) ∧ h1 = h) := mi_S_eq (wo0 x 240) (c_writtenOf hw)
set_option maxHeartbeats 4000000 in
set_option maxRecDepth 100000 in
theorem f_many_0 {X : mi_X} {h : mi_H} {B : Nat} (hw : ph_W B ph_0 (fun _ _ => 0) (fun _ _ => 0) h) : mi_S pP X kX8_many 1 [.ref B, .int 0] h 0 0 (fun r h1 => r = some (.int 0) ∧ h1 = h) := by
  refine enX8_many (Nat.le_of_ble_eq_true rfl) ?_
  refine mi_blk okX8_many 1 (pc' := 1) (lv' := [(0, .ref B), (1, .int 0)]) (st' := [.int 0]) rfl ?_
  refine mi_swin swX8_many_1 (x := 0) (by decide) (by decide) rfl rfl ?_
  refine mi_blk okX8_many 1 (pc' := 69) (lv' := [(0, .ref B), (1, .int 0)]) (st' := [.ref B]) rfl ?_
  refine mi_getf okX8_many rfl fg_RX8_42 (show 6 ≤ _ by have := hw.z; omega) (show _ < h.1 by have := hw.z; omega) hw.ph (v := .int 0) rfl ?_
  exact mi_ret_i okX8_many rfl rfl rfl ⟨rfl, rfl⟩
set_option maxHeartbeats 4000000 in
set_option maxRecDepth 100000 in
theorem f_many_1 {X : mi_X} {h : mi_H} {B : Nat} (hw : ph_W B ph_0 (fun _ _ => 0) (fun _ _ => 0) h) : mi_S pP X kX8_many 1 [.ref B, .int 1] h 0 0 (fun r h1 => r = some (.int 0) ∧ h1 = h) := by
  refine enX8_many (Nat.le_of_ble_eq_true rfl) ?_
  refine mi_blk okX8_many 1 (pc' := 1) (lv' := [(0, .ref B), (1, .int 1)]) (st' := [.int 1]) rfl ?_
  refine mi_swin swX8_many_1 (x := 1) (by decide) (by decide) rfl rfl ?_
  refine mi_blk okX8_many 1 (pc' := 74) (lv' := [(0, .ref B), (1, .int 1)]) (st' := [.ref B]) rfl ?_
  refine mi_getf okX8_many rfl fg_RX8_46 (show 6 ≤ _ by have := hw.z; omega) (show _ < h.1 by have := hw.z; omega) hw.ph (v := .int 0) rfl ?_
  exact mi_ret_i okX8_many rfl rfl rfl ⟨rfl, rfl⟩
set_option maxHeartbeats 4000000 in
set_option maxRecDepth 100000 in
theorem f_many_2 {X : mi_X} {h : mi_H} {B : Nat} (hw : ph_W B ph_0 (fun _ _ => 0) (fun _ _ => 0) h) : mi_S pP X kX8_many 1 [.ref B, .int 2] h 0 0 (fun r h1 => r = some (.int 0) ∧ h1 = h) := by
  refine enX8_many (Nat.le_of_ble_eq_true rfl) ?_
  refine mi_blk okX8_many 1 (pc' := 1) (lv' := [(0, .ref B), (1, .int 2)]) (st' := [.int 2]) rfl ?_
  refine mi_swin swX8_many_1 (x := 2) (by decide) (by decide) rfl rfl ?_
  refine mi_blk okX8_many 1 (pc' := 79) (lv' := [(0, .ref B), (1, .int 2)]) (st' := [.ref B]) rfl ?_
  refine mi_getf okX8_many rfl fg_RX8_49 (show 6 ≤ _ by have := hw.z; omega) (show _ < h.1 by have := hw.z; omega) hw.ph (v := .int 0) rfl ?_
  exact mi_ret_i okX8_many rfl rfl rfl ⟨rfl, rfl⟩
set_option maxHeartbeats 4000000 in
set_option maxRecDepth 100000 in
theorem f_many_3 {X : mi_X} {h : mi_H} {B : Nat} (hw : ph_W B ph_0 (fun _ _ => 0) (fun _ _ => 0) h) : mi_S pP X kX8_many 1 [.ref B, .int 3] h 0 0 (fun r h1 => r = some (.int 4) ∧ h1 = h) := by
  refine enX8_many (Nat.le_of_ble_eq_true rfl) ?_
  refine mi_blk okX8_many 1 (pc' := 1) (lv' := [(0, .ref B), (1, .int 3)]) (st' := [.int 3]) rfl ?_
  refine mi_swin swX8_many_1 (x := 3) (by decide) (by decide) rfl rfl ?_
  refine mi_blk okX8_many 1 (pc' := 84) (lv' := [(0, .ref B), (1, .int 3)]) (st' := [.ref B]) rfl ?_
  refine mi_getf okX8_many rfl fg_RX8_52 (show 6 ≤ _ by have := hw.z; omega) (show _ < h.1 by have := hw.z; omega) hw.ph (v := .int 4) rfl ?_
  exact mi_ret_i okX8_many rfl rfl rfl ⟨rfl, rfl⟩
set_option maxHeartbeats 4000000 in
set_option maxRecDepth 100000 in
theorem f_many_4 {X : mi_X} {h : mi_H} {B : Nat} (hw : ph_W B ph_0 (fun _ _ => 0) (fun _ _ => 0) h) : mi_S pP X kX8_many 1 [.ref B, .int 4] h 0 0 (fun r h1 => r = some (.int 0) ∧ h1 = h) := by
  refine enX8_many (Nat.le_of_ble_eq_true rfl) ?_
  refine mi_blk okX8_many 1 (pc' := 1) (lv' := [(0, .ref B), (1, .int 4)]) (st' := [.int 4]) rfl ?_
  refine mi_swin swX8_many_1 (x := 4) (by decide) (by decide) rfl rfl ?_
  refine mi_blk okX8_many 2 (pc' := 90) (lv' := [(0, .ref B), (1, .int 4)]) (st' := [.int 0, .ref B]) rfl ?_
  refine mi_callV okX8_many (mc := 0) (ms := 0) (mc' := 0) (ms' := 0) (b := B) (As := [.int 0]) (st := []) rfl cv_RX8_295 rfl (by decide) (show 6 ≤ _ by have := hw.z; omega) (show _ < h.1 by have := hw.z; omega) hw.ph rfl (Nat.le_of_ble_eq_true rfl) (f_wo hw) (fun r h1 q => ?_)
  obtain ⟨rfl, e9⟩ := q; have e9 := e9.symm; subst e9
  change mi_WX _ pP X kX8_many 1 0 0 93 [(0, .ref B), (1, .int 4)] [.int 0] h _
  refine mi_blk okX8_many 2 (pc' := 95) (lv' := [(0, .ref B), (1, .int 4)]) (st' := [.int 1, .ref B, .int 0]) rfl ?_
  refine mi_callV okX8_many (mc := 0) (ms := 0) (mc' := 0) (ms' := 0) (b := B) (As := [.int 1]) (st := [.int 0]) rfl cv_RX8_295 rfl (by decide) (show 6 ≤ _ by have := hw.z; omega) (show _ < h.1 by have := hw.z; omega) hw.ph rfl (Nat.le_of_ble_eq_true rfl) (f_wo hw) (fun r h1 q => ?_)
  obtain ⟨rfl, e9⟩ := q; have e9 := e9.symm; subst e9
  change mi_WX _ pP X kX8_many 1 0 0 98 [(0, .ref B), (1, .int 4)] [.int 0, .int 0] h _
  refine mi_blk okX8_many 3 (pc' := 101) (lv' := [(0, .ref B), (1, .int 4)]) (st' := [.int 2, .ref B, .int 0]) rfl ?_
  refine mi_callV okX8_many (mc := 0) (ms := 0) (mc' := 0) (ms' := 0) (b := B) (As := [.int 2]) (st := [.int 0]) rfl cv_RX8_295 rfl (by decide) (show 6 ≤ _ by have := hw.z; omega) (show _ < h.1 by have := hw.z; omega) hw.ph rfl (Nat.le_of_ble_eq_true rfl) (f_wo hw) (fun r h1 q => ?_)
  obtain ⟨rfl, e9⟩ := q; have e9 := e9.symm; subst e9
  change mi_WX _ pP X kX8_many 1 0 0 104 [(0, .ref B), (1, .int 4)] [.int 0, .int 0] h _
  refine mi_blk okX8_many 1 (pc' := 105) (lv' := [(0, .ref B), (1, .int 4)]) (st' := [.int 0]) rfl ?_
  exact mi_ret_i okX8_many rfl rfl rfl ⟨rfl, rfl⟩
set_option maxHeartbeats 4000000 in
set_option maxRecDepth 100000 in
theorem f_many_5 {X : mi_X} {h : mi_H} {B : Nat} (hw : ph_W B ph_0 (fun _ _ => 0) (fun _ _ => 0) h) : mi_S pP X kX8_many 1 [.ref B, .int 5] h 0 0 (fun r h1 => r = some (.int 0) ∧ h1 = h) := by
  refine enX8_many (Nat.le_of_ble_eq_true rfl) ?_
  refine mi_blk okX8_many 1 (pc' := 1) (lv' := [(0, .ref B), (1, .int 5)]) (st' := [.int 5]) rfl ?_
  refine mi_swin swX8_many_1 (x := 5) (by decide) (by decide) rfl rfl ?_
  refine mi_blk okX8_many 2 (pc' := 108) (lv' := [(0, .ref B), (1, .int 5)]) (st' := [.int 0, .ref B]) rfl ?_
  refine mi_callV okX8_many (mc := 0) (ms := 0) (mc' := 0) (ms' := 0) (b := B) (As := [.int 0]) (st := []) rfl cv_RX8_295 rfl (by decide) (show 6 ≤ _ by have := hw.z; omega) (show _ < h.1 by have := hw.z; omega) hw.ph rfl (Nat.le_of_ble_eq_true rfl) (f_wo hw) (fun r h1 q => ?_)
  obtain ⟨rfl, e9⟩ := q; have e9 := e9.symm; subst e9
  change mi_WX _ pP X kX8_many 1 0 0 111 [(0, .ref B), (1, .int 5)] [.int 0] h _
  exact mi_ret_i okX8_many rfl rfl rfl ⟨rfl, rfl⟩
set_option maxHeartbeats 4000000 in
set_option maxRecDepth 100000 in
theorem f_many_6 {X : mi_X} {h : mi_H} {B : Nat} (hw : ph_W B ph_0 (fun _ _ => 0) (fun _ _ => 0) h) : mi_S pP X kX8_many 1 [.ref B, .int 6] h 0 0 (fun r h1 => r = some (.int 0) ∧ h1 = h) := by
  refine enX8_many (Nat.le_of_ble_eq_true rfl) ?_
  refine mi_blk okX8_many 1 (pc' := 1) (lv' := [(0, .ref B), (1, .int 6)]) (st' := [.int 6]) rfl ?_
  refine mi_swin swX8_many_1 (x := 6) (by decide) (by decide) rfl rfl ?_
  refine mi_blk okX8_many 2 (pc' := 114) (lv' := [(0, .ref B), (1, .int 6)]) (st' := [.int 1, .ref B]) rfl ?_
  refine mi_callV okX8_many (mc := 0) (ms := 0) (mc' := 0) (ms' := 0) (b := B) (As := [.int 1]) (st := []) rfl cv_RX8_295 rfl (by decide) (show 6 ≤ _ by have := hw.z; omega) (show _ < h.1 by have := hw.z; omega) hw.ph rfl (Nat.le_of_ble_eq_true rfl) (f_wo hw) (fun r h1 q => ?_)
  obtain ⟨rfl, e9⟩ := q; have e9 := e9.symm; subst e9
  change mi_WX _ pP X kX8_many 1 0 0 117 [(0, .ref B), (1, .int 6)] [.int 0] h _
  exact mi_ret_i okX8_many rfl rfl rfl ⟨rfl, rfl⟩
set_option maxHeartbeats 4000000 in
set_option maxRecDepth 100000 in
theorem f_many_7 {X : mi_X} {h : mi_H} {B : Nat} (hw : ph_W B ph_0 (fun _ _ => 0) (fun _ _ => 0) h) : mi_S pP X kX8_many 1 [.ref B, .int 7] h 0 0 (fun r h1 => r = some (.int 0) ∧ h1 = h) := by
  refine enX8_many (Nat.le_of_ble_eq_true rfl) ?_
  refine mi_blk okX8_many 1 (pc' := 1) (lv' := [(0, .ref B), (1, .int 7)]) (st' := [.int 7]) rfl ?_
  refine mi_swin swX8_many_1 (x := 7) (by decide) (by decide) rfl rfl ?_
  refine mi_blk okX8_many 2 (pc' := 120) (lv' := [(0, .ref B), (1, .int 7)]) (st' := [.int 2, .ref B]) rfl ?_
  refine mi_callV okX8_many (mc := 0) (ms := 0) (mc' := 0) (ms' := 0) (b := B) (As := [.int 2]) (st := []) rfl cv_RX8_295 rfl (by decide) (show 6 ≤ _ by have := hw.z; omega) (show _ < h.1 by have := hw.z; omega) hw.ph rfl (Nat.le_of_ble_eq_true rfl) (f_wo hw) (fun r h1 q => ?_)
  obtain ⟨rfl, e9⟩ := q; have e9 := e9.symm; subst e9
  change mi_WX _ pP X kX8_many 1 0 0 123 [(0, .ref B), (1, .int 7)] [.int 0] h _
  exact mi_ret_i okX8_many rfl rfl rfl ⟨rfl, rfl⟩
set_option maxHeartbeats 4000000 in
set_option maxRecDepth 100000 in
theorem f_many_8 {X : mi_X} {h : mi_H} {B : Nat} (hw : ph_W B ph_0 (fun _ _ => 0) (fun _ _ => 0) h) : mi_S pP X kX8_many 1 [.ref B, .int 8] h 0 0 (fun r h1 => r = some (.int 0) ∧ h1 = h) := by
  refine enX8_many (Nat.le_of_ble_eq_true rfl) ?_
  refine mi_blk okX8_many 1 (pc' := 1) (lv' := [(0, .ref B), (1, .int 8)]) (st' := [.int 8]) rfl ?_
  refine mi_swin swX8_many_1 (x := 8) (by decide) (by decide) rfl rfl ?_
  refine mi_blk okX8_many 1 (pc' := 125) (lv' := [(0, .ref B), (1, .int 8)]) (st' := [.ref B]) rfl ?_
  refine mi_getf okX8_many rfl fg_RX8_31 (show 6 ≤ _ by have := hw.z; omega) (show _ < h.1 by have := hw.z; omega) hw.ph (v := .ref (B + 26)) rfl ?_
  refine mi_getf okX8_many rfl fg_RX8_199 (show 6 ≤ _ by have := hw.z; omega) (show _ < h.1 by have := hw.z; omega) hw.dr (v := .int (nI 0)) rfl ?_
  exact mi_ret_i okX8_many rfl rfl rfl ⟨rfl, rfl⟩
set_option maxHeartbeats 4000000 in
set_option maxRecDepth 100000 in
theorem f_many_9 {X : mi_X} {h : mi_H} {B : Nat} (hw : ph_W B ph_0 (fun _ _ => 0) (fun _ _ => 0) h) : mi_S pP X kX8_many 1 [.ref B, .int 9] h 0 0 (fun r h1 => r = some (.int 0) ∧ h1 = h) := by
  refine enX8_many (Nat.le_of_ble_eq_true rfl) ?_
  refine mi_blk okX8_many 1 (pc' := 1) (lv' := [(0, .ref B), (1, .int 9)]) (st' := [.int 9]) rfl ?_
  refine mi_swin swX8_many_1 (x := 9) (by decide) (by decide) rfl rfl ?_
  refine mi_blk okX8_many 1 (pc' := 133) (lv' := [(0, .ref B), (1, .int 9)]) (st' := [.ref B]) rfl ?_
  refine mi_getf okX8_many rfl fg_RX8_31 (show 6 ≤ _ by have := hw.z; omega) (show _ < h.1 by have := hw.z; omega) hw.ph (v := .ref (B + 26)) rfl ?_
  refine mi_getf okX8_many rfl fg_RX8_298 (show 6 ≤ _ by have := hw.z; omega) (show _ < h.1 by have := hw.z; omega) hw.dr (v := .int 0) rfl ?_
  exact mi_ret_i okX8_many rfl rfl rfl ⟨rfl, rfl⟩
set_option maxHeartbeats 4000000 in
set_option maxRecDepth 100000 in
theorem f_many_10 {X : mi_X} {h : mi_H} {B : Nat} (hw : ph_W B ph_0 (fun _ _ => 0) (fun _ _ => 0) h) : mi_S pP X kX8_many 1 [.ref B, .int 10] h 0 0 (fun r h1 => r = some (.int 0) ∧ h1 = h) := by
  refine enX8_many (Nat.le_of_ble_eq_true rfl) ?_
  refine mi_blk okX8_many 1 (pc' := 1) (lv' := [(0, .ref B), (1, .int 10)]) (st' := [.int 10]) rfl ?_
  refine mi_swin swX8_many_1 (x := 10) (by decide) (by decide) rfl rfl ?_
  refine mi_blk okX8_many 1 (pc' := 141) (lv' := [(0, .ref B), (1, .int 10)]) (st' := [.ref B]) rfl ?_
  refine mi_getf okX8_many rfl fg_RX8_55 (show 6 ≤ _ by have := hw.z; omega) (show _ < h.1 by have := hw.z; omega) hw.ph (v := .int 0) rfl ?_
  refine mi_if_eq okX8_many rfl rfl (fun c_144 => ?_) (fun c_144 => absurd (by decide) c_144)
  refine mi_blk okX8_many 1 (pc' := 152) (lv' := [(0, .ref B), (1, .int 10)]) (st' := [.int 0]) rfl ?_
  exact mi_ret_i okX8_many rfl rfl rfl ⟨rfl, rfl⟩
set_option maxHeartbeats 4000000 in
set_option maxRecDepth 100000 in
theorem f_many_11 {X : mi_X} {h : mi_H} {B : Nat} (hw : ph_W B ph_0 (fun _ _ => 0) (fun _ _ => 0) h) : mi_S pP X kX8_many 1 [.ref B, .int 11] h 0 0 (fun r h1 => r = some (.int 0) ∧ h1 = h) := by
  refine enX8_many (Nat.le_of_ble_eq_true rfl) ?_
  refine mi_blk okX8_many 1 (pc' := 1) (lv' := [(0, .ref B), (1, .int 11)]) (st' := [.int 11]) rfl ?_
  refine mi_swin swX8_many_1 (x := 11) (by decide) (by decide) rfl rfl ?_
  refine mi_blk okX8_many 1 (pc' := 154) (lv' := [(0, .ref B), (1, .int 11)]) (st' := [.ref B]) rfl ?_
  refine mi_getf okX8_many rfl fg_RX8_31 (show 6 ≤ _ by have := hw.z; omega) (show _ < h.1 by have := hw.z; omega) hw.ph (v := .ref (B + 26)) rfl ?_
  refine mi_getf okX8_many rfl fg_RX8_185 (show 6 ≤ _ by have := hw.z; omega) (show _ < h.1 by have := hw.z; omega) hw.dr (v := .int 0) rfl ?_
  exact mi_ret_i okX8_many rfl rfl rfl ⟨rfl, rfl⟩
set_option maxHeartbeats 4000000 in
set_option maxRecDepth 100000 in
theorem f_many_12 {X : mi_X} {h : mi_H} {B : Nat} (hw : ph_W B ph_0 (fun _ _ => 0) (fun _ _ => 0) h) : mi_S pP X kX8_many 1 [.ref B, .int 12] h 0 0 (fun r h1 => r = some (.int 0) ∧ h1 = h) := by
  refine enX8_many (Nat.le_of_ble_eq_true rfl) ?_
  refine mi_blk okX8_many 1 (pc' := 1) (lv' := [(0, .ref B), (1, .int 12)]) (st' := [.int 12]) rfl ?_
  refine mi_swin swX8_many_1 (x := 12) (by decide) (by decide) rfl rfl ?_
  refine mi_blk okX8_many 1 (pc' := 162) (lv' := [(0, .ref B), (1, .int 12)]) (st' := [.ref B]) rfl ?_
  refine mi_getf okX8_many rfl fg_RX8_31 (show 6 ≤ _ by have := hw.z; omega) (show _ < h.1 by have := hw.z; omega) hw.ph (v := .ref (B + 26)) rfl ?_
  refine mi_getf okX8_many rfl fg_RX8_182 (show 6 ≤ _ by have := hw.z; omega) (show _ < h.1 by have := hw.z; omega) hw.dr (v := .int 0) rfl ?_
  refine mi_if_eq okX8_many rfl rfl (fun c_168 => ?_) (fun c_168 => absurd (by decide) c_168)
  refine mi_blk okX8_many 1 (pc' := 176) (lv' := [(0, .ref B), (1, .int 12)]) (st' := [.int 0]) rfl ?_
  exact mi_ret_i okX8_many rfl rfl rfl ⟨rfl, rfl⟩
set_option maxHeartbeats 4000000 in
set_option maxRecDepth 100000 in
theorem f_seek {X : mi_X} {h : mi_H} {B : Nat} (hw : ph_W B ph_0 (fun _ _ => 0) (fun _ _ => 0) h) (hX : mi_X23 X) {k : Nat} (hk : k < 240) : mi_S pP X kX8_seek 3 [.ref B, .int (nI k)] h 0 0 (fun r h1 => r = some (.double (dr_sk 0 k)) ∧ h1 = h) := by
  refine enX8_seek (Nat.le_of_ble_eq_true rfl) ?_
  refine mi_blk okX8_seek 1 (pc' := 1) (lv' := [(0, .ref B), (1, .int (nI k))]) (st' := [.int (nI k)]) rfl ?_
  refine mi_callS okX8_seek (mc := 0) (ms := 0) (mc' := 0) (ms' := 0) (As := [.int (nI k)]) (st := []) rfl cs_RX8_188 rfl (by decide) (Nat.le_of_ble_eq_true rfl) (c_checkSector hk) (fun r h1 q => ?_)
  obtain ⟨rfl, e9⟩ := q; have e9 := e9.symm; subst e9
  change mi_WX _ pP X kX8_seek 3 0 0 4 [(0, .ref B), (1, .int (nI k))] [] h _
  refine mi_blk okX8_seek 1 (pc' := 5) (lv' := [(0, .ref B), (1, .int (nI k))]) (st' := [.ref B]) rfl ?_
  refine mi_getf okX8_seek rfl fg_RX8_31 (show 6 ≤ _ by have := hw.z; omega) (show _ < h.1 by have := hw.z; omega) hw.ph (v := .ref (B + 26)) rfl ?_
  refine mi_getf okX8_seek rfl fg_RX8_199 (show 6 ≤ _ by have := hw.z; omega) (show _ < h.1 by have := hw.z; omega) hw.dr (v := .int (nI 0)) rfl ?_
  refine mi_blk okX8_seek 1 (pc' := 12) (lv' := [(0, .ref B), (1, .int (nI k))]) (st' := [.int (nI k), .int (nI 0)]) rfl ?_
  refine mi_callS okX8_seek (mc := 0) (ms := 0) (mc' := 0) (ms' := 0) (As := [.int (nI 0), .int (nI k)]) (st := []) rfl cs_RX8_202 rfl (by decide) (Nat.le_of_ble_eq_true rfl) (c_seekTime hX (i := 0) (j := k) (by decide) hk) (fun r h1 q => ?_)
  obtain ⟨rfl, e9⟩ := q; have e9 := e9.symm; subst e9
  change mi_WX _ pP X kX8_seek 3 0 0 15 [(0, .ref B), (1, .int (nI k))] [.double (dr_sk 0 k)] h _
  exact mi_ret_d okX8_seek rfl rfl ⟨rfl, rfl⟩
set_option maxHeartbeats 4000000 in
set_option maxRecDepth 100000 in
theorem f_angle {X : mi_X} {h : mi_H} {B : Nat} (hw : ph_W B ph_0 (fun _ _ => 0) (fun _ _ => 0) h) (hX : mi_X23 X) {k : Nat} (hk : k < 240) : mi_S pP X kX8_angle 2 [.ref B, .int (nI k)] h 0 0 (fun r h1 => r = some (.double (sp_ang (nI k))) ∧ h1 = h) := by
  refine enX8_angle (Nat.le_of_ble_eq_true rfl) ?_
  refine mi_blk okX8_angle 1 (pc' := 1) (lv' := [(0, .ref B), (1, .int (nI k))]) (st' := [.int (nI k)]) rfl ?_
  refine mi_callS okX8_angle (mc := 0) (ms := 0) (mc' := 0) (ms' := 0) (As := [.int (nI k)]) (st := []) rfl cs_RX8_188 rfl (by decide) (Nat.le_of_ble_eq_true rfl) (c_checkSector hk) (fun r h1 q => ?_)
  obtain ⟨rfl, e9⟩ := q; have e9 := e9.symm; subst e9
  change mi_WX _ pP X kX8_angle 2 0 0 4 [(0, .ref B), (1, .int (nI k))] [] h _
  refine mi_blk okX8_angle 1 (pc' := 5) (lv' := [(0, .ref B), (1, .int (nI k))]) (st' := [.int (nI k)]) rfl ?_
  refine mi_callS okX8_angle (mc := 0) (ms := 0) (mc' := 0) (ms' := 0) (As := [.int (nI k)]) (st := []) rfl cs_RX8_165 rfl (by decide) (Nat.le_of_ble_eq_true rfl) (c_angleOf hX hk) (fun r h1 q => ?_)
  obtain ⟨rfl, e9⟩ := q; have e9 := e9.symm; subst e9
  change mi_WX _ pP X kX8_angle 2 0 0 8 [(0, .ref B), (1, .int (nI k))] [.double (sp_ang (nI k))] h _
  exact mi_ret_d okX8_angle rfl rfl ⟨rfl, rfl⟩
theorem f_wouldMend {X : mi_X} {h : mi_H} {B : Nat} (hw : ph_W B ph_0 (fun _ _ => 0) (fun _ _ => 0) h) (hX1 : mi_X1 X) {k : Nat} (hk : k < 240) {t : Int32} (h0 : ¬ t < 0) (h1 : t ≤ 65535) : ∃ R : mi_H → Prop, mi_S pP X kX8_wouldMend 5 [.ref B, .int (nI k), .int t] h 0 0 (fun r h1 => r = some (.int 2) ∧ R h1) ∧ ∀ h1, R h1 → fr B h h1 := by
  refine ⟨_, mi_S_eq (v' := 2) (by exact if_pos rfl) (c_wouldMend hX1 hw hk h0 h1), fun h1 e => ?_⟩
  subst e
  exact ⟨rfl, fun b hb => mi_set_ne (by have := hw.z; omega)⟩
