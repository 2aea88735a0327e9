-- the reference: a fresh one stands at M: itself, its blocks, sums, TRACKS, what each SECTOR is of, FILES
/-- sessions, open, next, calibrations, head, CLOCK, reads, tray, refused -/
abbrev mo_U : Type := Int32 × Int32 × Int32 × Int32 × Int32 × UInt64 × Int32 × Int32 × Int32
abbrev mo_c (M : Nat) (th : Int32) (u : mo_U) : mi_C := .inr (9, [.int th, .ref (M + 1), .ref (M + 2), .ref (M + 3), .ref (M + 4), .int u.1, .int u.2.1, .int u.2.2.1, .int u.2.2.2.1, .ref (M + 5), .int u.2.2.2.2.1, .double u.2.2.2.2.2.1, .int u.2.2.2.2.2.2.1, .int u.2.2.2.2.2.2.2.1, .int u.2.2.2.2.2.2.2.2])
def mo_W (M : Nat) (h : mi_H) : Prop := (6 ≤ M ∧ M + 6 ≤ h.1) ∧ h.2 (M + 1) = ph_r 3 240 (fun _ => none) ∧ h.2 (M + 3) = .inr (13, [.int 0, .ref 5, .int 0]) ∧ ∃ f, h.2 (M + 4) = .inl (0, 240, .inl f) ∧ ∀ i, i < 240 → f i = -1
theorem mo_W.set {M : Nat} {h : mi_H} (hw : mo_W M h) (c : mi_C) : mo_W M (mi_set h M c) := by
  obtain ⟨hz, hb, ht, f, hf, hg⟩ := hw
  exact ⟨hz, (mi_set_ne (by omega)).trans hb, (mi_set_ne (by omega)).trans ht, f, (mi_set_ne (by omega)).trans hf, hg⟩
theorem mo_W.psh {M : Nat} {h : mi_H} (hw : mo_W M h) (c : mi_C) : mo_W M (mi_psh h c) := by
  obtain ⟨hz, hb, ht, f, hf, hg⟩ := hw
  exact ⟨⟨hz.1, Nat.le_succ_of_le hz.2⟩, (mi_psh_lt (by omega)).trans hb, (mi_psh_lt (by omega)).trans ht, f, (mi_psh_lt (by omega)).trans hf, hg⟩
section MOR
variable {QX : Nat → Nat → mi_H → Prop} {X : mi_X} {k0 d mc ms pc : Nat} {lv : mi_L} {st : List Value} {h : mi_H} {Q : Option Value → mi_H → Prop} {tb : List (Nat × Instr)} {M : Nat}
theorem mo_aab (ht : mi_tb (pP.2.2.2.1 k0).2.1 tb) {k : Nat} (hi : mi_at tb pc = some .aaload) (hw : mo_W M h) (hk : k < 240) (kk : mi_WX QX pP X k0 d mc ms (pc + 1) lv (.null :: st) h Q) : mi_WX QX pP X k0 d mc ms pc lv (.int (nI k) :: .ref (M + 1) :: st) h Q := by
  obtain ⟨hz, hb, -⟩ := hw
  exact mi_aaldA ht (t := 3) hi rfl (show 6 ≤ M + 1 by omega) (by omega) hb (vp_in_lt hk (by decide)) kk
theorem mo_iao (ht : mi_tb (pP.2.2.2.1 k0).2.1 tb) {k : Nat} (hi : mi_at tb pc = some .iaload) (hw : mo_W M h) (hk : k < 240) (kk : mi_WX QX pP X k0 d mc ms (pc + 1) lv (.int (-1) :: st) h Q) : mi_WX QX pP X k0 d mc ms pc lv (.int (nI k) :: .ref (M + 4) :: st) h Q := by
  obtain ⟨hz, -, -, f, hf, hg⟩ := hw
  refine mi_iald ht (t := 0) hi rfl (show 6 ≤ M + 4 by omega) (by omega) hf (vp_in_lt hk (by decide)) ?_
  rw [nI_clamp (by omega), hg k hk]
  exact kk
theorem mo_ist (ht : mi_tb (pP.2.2.2.1 k0).2.1 tb) {a n j : Nat} {f : Nat → Int32} {i x : Int32} (hi : mi_at tb pc = some .iastore) (hE : 6 ≤ a) (ha : a < h.1) (hc : h.2 a = .inl (0, n, .inl f)) (hij : i = nI j) (hj : j < n) (hn : n < 2147483648) (kk : mi_WX QX pP X k0 d mc ms (pc + 1) lv st (mi_set h a (.inl (0, n, .inl (va_up f j x)))) Q) : mi_WX QX pP X k0 d mc ms pc lv (.int x :: .int i :: .ref a :: st) h Q := by
  subst hij
  refine mi_iast ht (t := 0) hi rfl hE ha hc (vp_in_nI hj (by omega)) ?_
  rw [nI_clamp (by omega)]
  exact kk
theorem mo_ild (ht : mi_tb (pP.2.2.2.1 k0).2.1 tb) {a n j : Nat} {f : Nat → Int32} {i v : Int32} (hi : mi_at tb pc = some .iaload) (hE : 6 ≤ a) (ha : a < h.1) (hc : h.2 a = .inl (0, n, .inl f)) (hij : i = nI j) (hj : j < n) (hn : n < 2147483648) (hv : f j = v) (kk : mi_WX QX pP X k0 d mc ms (pc + 1) lv (.int v :: st) h Q) : mi_WX QX pP X k0 d mc ms pc lv (.int i :: .ref a :: st) h Q := by
  subst hij
  refine mi_iald ht (t := 0) hi rfl hE ha hc (vp_in_nI hj (by omega)) ?_
  rw [nI_clamp (by omega), hv]
  exact kk
theorem mi_ret_n (ht : mi_tb (pP.2.2.2.1 k0).2.1 tb) {rt : FieldType} (hi : mi_at tb pc = some .areturn) (hr : (pP.2.2.2.1 k0).2.2.2 = some rt) (hrt : (∃ n, rt = .object n) ∨ ∃ t, rt = .array t) (hQ : Q (some .null) h) : mi_WX QX pP X k0 d mc ms pc lv [.null] h Q := mi_ret (some .null) ⟨ht pc _ (mi_at_mem hi), rt, hr, hrt⟩ hQ
end MOR
set_option maxHeartbeats 4000000 in
set_option maxRecDepth 100000 in
theorem m_isIn_1 {X : mi_X} {h : mi_H} {x a b : Int32} (h1 : ¬ x < a) (h2 : ¬ b < x) : mi_S pP X kX9_isIn 0 [.int x, .int a, .int b] h 0 0 (fun r h1 => r = some (.int 1) ∧ h1 = h) := by
  refine enX9_isIn (Nat.le_of_ble_eq_true rfl) ?_
  refine mi_blk okX9_isIn 2 (pc' := 2) (lv' := [(0, .int x), (1, .int a), (2, .int b)]) (st' := [.int a, .int x]) rfl ?_
  refine mi_ic_lt okX9_isIn rfl rfl (fun c_2 => absurd c_2 h1) (fun c_2 => ?_)
  refine mi_blk okX9_isIn 2 (pc' := 7) (lv' := [(0, .int x), (1, .int a), (2, .int b)]) (st' := [.int b, .int x]) rfl ?_
  refine mi_ic_gt okX9_isIn rfl rfl (fun c_7 => absurd c_7 h2) (fun c_7 => ?_)
  refine mi_blk okX9_isIn 2 (pc' := 15) (lv' := [(0, .int x), (1, .int a), (2, .int b)]) (st' := [.int 1]) rfl ?_
  exact mi_ret_i okX9_isIn rfl rfl rfl ⟨rfl, rfl⟩
set_option maxHeartbeats 4000000 in
set_option maxRecDepth 100000 in
theorem m_isIn_0 {X : mi_X} {h : mi_H} {x a b : Int32} (hx : x < a ∨ b < x) : mi_S pP X kX9_isIn 0 [.int x, .int a, .int b] h 0 0 (fun r h1 => r = some (.int 0) ∧ h1 = h) := by
  refine enX9_isIn (Nat.le_of_ble_eq_true rfl) ?_
  refine mi_blk okX9_isIn 2 (pc' := 2) (lv' := [(0, .int x), (1, .int a), (2, .int b)]) (st' := [.int a, .int x]) rfl ?_
  refine mi_ic_lt okX9_isIn rfl rfl (fun c_2 => ?_) (fun c_2 => ?_)
  · refine mi_blk okX9_isIn 1 (pc' := 15) (lv' := [(0, .int x), (1, .int a), (2, .int b)]) (st' := [.int 0]) rfl ?_
    exact mi_ret_i okX9_isIn rfl rfl rfl ⟨rfl, rfl⟩
  · refine mi_blk okX9_isIn 2 (pc' := 7) (lv' := [(0, .int x), (1, .int a), (2, .int b)]) (st' := [.int b, .int x]) rfl ?_
    refine mi_ic_gt okX9_isIn rfl rfl (fun c_7 => ?_) (fun c_7 => absurd (hx.resolve_left c_2) c_7)
    refine mi_blk okX9_isIn 1 (pc' := 15) (lv' := [(0, .int x), (1, .int a), (2, .int b)]) (st' := [.int 0]) rfl ?_
    exact mi_ret_i okX9_isIn rfl rfl rfl ⟨rfl, rfl⟩
set_option maxHeartbeats 4000000 in
set_option maxRecDepth 100000 in
theorem m_one_0 {X : mi_X} {h : mi_H} : mi_S pP X kX9_one 0 [.int 0] h 0 0 (fun r h1 => r = some (.int 0) ∧ h1 = h) := by
  refine enX9_one (Nat.le_of_ble_eq_true rfl) ?_
  refine mi_blk okX9_one 1 (pc' := 1) (lv' := [(0, .int 0)]) (st' := [.int 0]) rfl ?_
  refine mi_if_eq okX9_one rfl rfl (fun c_1 => ?_) (fun c_1 => absurd (by decide) c_1)
  refine mi_blk okX9_one 1 (pc' := 9) (lv' := [(0, .int 0)]) (st' := [.int 0]) rfl ?_
  exact mi_ret_i okX9_one rfl rfl rfl ⟨rfl, rfl⟩
set_option maxHeartbeats 4000000 in
set_option maxRecDepth 100000 in
theorem m_one_1 {X : mi_X} {h : mi_H} : mi_S pP X kX9_one 0 [.int 1] h 0 0 (fun r h1 => r = some (.int 1) ∧ h1 = h) := by
  refine enX9_one (Nat.le_of_ble_eq_true rfl) ?_
  refine mi_blk okX9_one 1 (pc' := 1) (lv' := [(0, .int 1)]) (st' := [.int 1]) rfl ?_
  refine mi_if_eq okX9_one rfl rfl (fun c_1 => absurd c_1 (by decide)) (fun c_1 => ?_)
  refine mi_blk okX9_one 2 (pc' := 9) (lv' := [(0, .int 1)]) (st' := [.int 1]) rfl ?_
  exact mi_ret_i okX9_one rfl rfl rfl ⟨rfl, rfl⟩
set_option maxHeartbeats 4000000 in
set_option maxRecDepth 100000 in
theorem m_refuse_0 {X : mi_X} {h : mi_H} {M : Nat} {u : mo_U} (hE : 6 ≤ M) (ha : M < h.1) (hc : h.2 M = mo_c M 0 u) {w : Int32} : mi_S pP X kX9_refuse 0 [.ref M, .int 0, .int w] h 0 0 (fun r h1 => r = some (.int 0) ∧ h1 = h) := by
  refine enX9_refuse (Nat.le_of_ble_eq_true rfl) ?_
  refine mi_blk okX9_refuse 1 (pc' := 1) (lv' := [(0, .ref M), (1, .int 0), (2, .int w)]) (st' := [.int 0]) rfl ?_
  refine mi_if_eq okX9_refuse rfl rfl (fun c_1 => ?_) (fun c_1 => absurd (by decide) c_1)
  refine mi_blk okX9_refuse 1 (pc' := 17) (lv' := [(0, .ref M), (1, .int 0), (2, .int w)]) (st' := [.ref M]) rfl ?_
  refine mi_getf okX9_refuse rfl fg_RX9_35 hE ha hc (v := .int 0) rfl ?_
  refine mi_if_le okX9_refuse rfl rfl (fun c_20 => ?_) (fun c_20 => absurd (by decide) c_20)
  refine mi_blk okX9_refuse 1 (pc' := 28) (lv' := [(0, .ref M), (1, .int 0), (2, .int w)]) (st' := [.int 0]) rfl ?_
  exact mi_ret_i okX9_refuse rfl rfl rfl ⟨rfl, rfl⟩
set_option maxHeartbeats 4000000 in
set_option maxRecDepth 100000 in
theorem m_refuse_1 {X : mi_X} {h : mi_H} {M : Nat} {u : mo_U} (hE : 6 ≤ M) (ha : M < h.1) (hc : h.2 M = mo_c M 0 u) {w : Int32} (hw : ¬ w ≤ 0) : mi_S pP X kX9_refuse 0 [.ref M, .int 1, .int w] h 0 0 (fun r h1 => r = some (.int 1) ∧ h1 = mi_set h M (mo_c M w u)) := by
  refine enX9_refuse (Nat.le_of_ble_eq_true rfl) ?_
  refine mi_blk okX9_refuse 1 (pc' := 1) (lv' := [(0, .ref M), (1, .int 1), (2, .int w)]) (st' := [.int 1]) rfl ?_
  refine mi_if_eq okX9_refuse rfl rfl (fun c_1 => absurd c_1 (by decide)) (fun c_1 => ?_)
  refine mi_blk okX9_refuse 1 (pc' := 5) (lv' := [(0, .ref M), (1, .int 1), (2, .int w)]) (st' := [.ref M]) rfl ?_
  refine mi_getf okX9_refuse rfl fg_RX9_35 hE ha hc (v := .int 0) rfl ?_
  refine mi_if_ne okX9_refuse rfl rfl (fun c_8 => absurd (by decide) c_8) (fun c_8 => ?_)
  refine mi_blk okX9_refuse 2 (pc' := 13) (lv' := [(0, .ref M), (1, .int 1), (2, .int w)]) (st' := [.int w, .ref M]) rfl ?_
  refine mi_putf' okX9_refuse rfl fd_RX9_35 hE ha hc (fs' := [.int w, .ref (M + 1), .ref (M + 2), .ref (M + 3), .ref (M + 4), .int u.1, .int u.2.1, .int u.2.2.1, .int u.2.2.2.1, .ref (M + 5), .int u.2.2.2.2.1, .double u.2.2.2.2.2.1, .int u.2.2.2.2.2.2.1, .int u.2.2.2.2.2.2.2.1, .int u.2.2.2.2.2.2.2.2]) rfl (Nat.le_of_ble_eq_true rfl) rfl rfl ?_
  refine mi_blk okX9_refuse 1 (pc' := 17) (lv' := [(0, .ref M), (1, .int 1), (2, .int w)]) (st' := [.ref M]) rfl ?_
  refine mi_getf okX9_refuse rfl fg_RX9_35 hE ha mi_set_self (v := .int w) rfl ?_
  refine mi_if_le okX9_refuse rfl rfl (fun c_20 => absurd c_20 hw) (fun c_20 => ?_)
  refine mi_blk okX9_refuse 2 (pc' := 28) (lv' := [(0, .ref M), (1, .int 1), (2, .int w)]) (st' := [.int 1]) rfl ?_
  exact mi_ret_i okX9_refuse rfl rfl rfl ⟨rfl, rfl⟩
set_option maxHeartbeats 4000000 in
set_option maxRecDepth 100000 in
theorem m_start_0 {X : mi_X} {h : mi_H} {M : Nat} {u : mo_U} (hE : 6 ≤ M) (ha : M < h.1) {th : Int32} (hc : h.2 M = mo_c M th u) {w : Int32} : mi_S pP X kX9_start 1 [.ref M, .int 0, .int w] h 0 0 (fun r h1 => r = some (.int 0) ∧ h1 = mi_set h M (mo_c M 0 u)) := by
  refine enX9_start (Nat.le_of_ble_eq_true rfl) ?_
  refine mi_blk okX9_start 2 (pc' := 2) (lv' := [(0, .ref M), (1, .int 0), (2, .int w)]) (st' := [.int 0, .ref M]) rfl ?_
  refine mi_putf' okX9_start rfl fd_RX9_35 hE ha hc (fs' := [.int 0, .ref (M + 1), .ref (M + 2), .ref (M + 3), .ref (M + 4), .int u.1, .int u.2.1, .int u.2.2.1, .int u.2.2.2.1, .ref (M + 5), .int u.2.2.2.2.1, .double u.2.2.2.2.2.1, .int u.2.2.2.2.2.2.1, .int u.2.2.2.2.2.2.2.1, .int u.2.2.2.2.2.2.2.2]) rfl (Nat.le_of_ble_eq_true rfl) rfl rfl ?_
  refine mi_blk okX9_start 3 (pc' := 8) (lv' := [(0, .ref M), (1, .int 0), (2, .int w)]) (st' := [.int w, .int 0, .ref M]) rfl ?_
  refine mi_callV okX9_start (mc := 0) (ms := 0) (mc' := 0) (ms' := 0) (b := M) (As := [.int 0, .int w]) (st := []) rfl cv_RX9_38 rfl (by decide) hE ha mi_set_self rfl (Nat.le_of_ble_eq_true rfl) (m_refuse_0 (h := (mi_set h M (.inr (9, [.int 0, .ref (M + 1), .ref (M + 2), .ref (M + 3), .ref (M + 4), .int u.1, .int u.2.1, .int u.2.2.1, .int u.2.2.2.1, .ref (M + 5), .int u.2.2.2.2.1, .double u.2.2.2.2.2.1, .int u.2.2.2.2.2.2.1, .int u.2.2.2.2.2.2.2.1, .int u.2.2.2.2.2.2.2.2])))) (u := u) hE ha mi_set_self) (fun r h1 q => ?_)
  obtain ⟨rfl, e9⟩ := q; have e9 := e9.symm; subst e9
  change mi_WX _ pP X kX9_start 1 0 0 11 [(0, .ref M), (1, .int 0), (2, .int w)] [.int 0] (mi_set h M (.inr (9, [.int 0, .ref (M + 1), .ref (M + 2), .ref (M + 3), .ref (M + 4), .int u.1, .int u.2.1, .int u.2.2.1, .int u.2.2.2.1, .ref (M + 5), .int u.2.2.2.2.1, .double u.2.2.2.2.2.1, .int u.2.2.2.2.2.2.1, .int u.2.2.2.2.2.2.2.1, .int u.2.2.2.2.2.2.2.2]))) _
  exact mi_ret_i okX9_start rfl rfl rfl ⟨rfl, rfl⟩
set_option maxHeartbeats 4000000 in
set_option maxRecDepth 100000 in
theorem m_start_1 {X : mi_X} {h : mi_H} {M : Nat} {u : mo_U} (hE : 6 ≤ M) (ha : M < h.1) {th : Int32} (hc : h.2 M = mo_c M th u) {w : Int32} (hw : ¬ w ≤ 0) : mi_S pP X kX9_start 1 [.ref M, .int 1, .int w] h 0 0 (fun r h1 => r = some (.int 1) ∧ h1 = mi_set h M (mo_c M w u)) := by
  refine enX9_start (Nat.le_of_ble_eq_true rfl) ?_
  refine mi_blk okX9_start 2 (pc' := 2) (lv' := [(0, .ref M), (1, .int 1), (2, .int w)]) (st' := [.int 0, .ref M]) rfl ?_
  refine mi_putf' okX9_start rfl fd_RX9_35 hE ha hc (fs' := [.int 0, .ref (M + 1), .ref (M + 2), .ref (M + 3), .ref (M + 4), .int u.1, .int u.2.1, .int u.2.2.1, .int u.2.2.2.1, .ref (M + 5), .int u.2.2.2.2.1, .double u.2.2.2.2.2.1, .int u.2.2.2.2.2.2.1, .int u.2.2.2.2.2.2.2.1, .int u.2.2.2.2.2.2.2.2]) rfl (Nat.le_of_ble_eq_true rfl) rfl rfl ?_
  refine mi_blk okX9_start 3 (pc' := 8) (lv' := [(0, .ref M), (1, .int 1), (2, .int w)]) (st' := [.int w, .int 1, .ref M]) rfl ?_
  refine mi_callV okX9_start (mc := 0) (ms := 0) (mc' := 0) (ms' := 0) (b := M) (As := [.int 1, .int w]) (st := []) rfl cv_RX9_38 rfl (by decide) hE ha mi_set_self rfl (Nat.le_of_ble_eq_true rfl) (m_refuse_1 (h := (mi_set h M (.inr (9, [.int 0, .ref (M + 1), .ref (M + 2), .ref (M + 3), .ref (M + 4), .int u.1, .int u.2.1, .int u.2.2.1, .int u.2.2.2.1, .ref (M + 5), .int u.2.2.2.2.1, .double u.2.2.2.2.2.1, .int u.2.2.2.2.2.2.1, .int u.2.2.2.2.2.2.2.1, .int u.2.2.2.2.2.2.2.2])))) (u := u) hE ha mi_set_self hw) (fun r h1 q => ?_)
  obtain ⟨rfl, e9⟩ := q; subst e9
  change mi_WX _ pP X kX9_start 1 0 0 11 [(0, .ref M), (1, .int 1), (2, .int w)] [.int 1] (mi_set (mi_set h M (.inr (9, [.int 0, .ref (M + 1), .ref (M + 2), .ref (M + 3), .ref (M + 4), .int u.1, .int u.2.1, .int u.2.2.1, .int u.2.2.2.1, .ref (M + 5), .int u.2.2.2.2.1, .double u.2.2.2.2.2.1, .int u.2.2.2.2.2.2.1, .int u.2.2.2.2.2.2.2.1, .int u.2.2.2.2.2.2.2.2]))) M (.inr (9, [.int w, .ref (M + 1), .ref (M + 2), .ref (M + 3), .ref (M + 4), .int u.1, .int u.2.1, .int u.2.2.1, .int u.2.2.2.1, .ref (M + 5), .int u.2.2.2.2.1, .double u.2.2.2.2.2.1, .int u.2.2.2.2.2.2.1, .int u.2.2.2.2.2.2.2.1, .int u.2.2.2.2.2.2.2.2]))) _
  exact mi_ret_i okX9_start rfl rfl rfl ⟨rfl, mi_set_set⟩
set_option maxHeartbeats 4000000 in
set_option maxRecDepth 100000 in
theorem m_size {X : mi_X} {h : mi_H} {a : Nat} {m n : Int32} {e : Value} (hE : 6 ≤ a) (ha : a < h.1) (hc : h.2 a = .inr (13, [.int m, e, .int n])) : mi_S pP X kJx4a65c_size_8abf5 0 [.ref a] h 0 0 (fun r h1 => r = some (.int n) ∧ h1 = h) := by
  refine enJx4a65c_size_8abf5 (Nat.le_of_ble_eq_true rfl) ?_
  refine mi_blk okJx4a65c_size_8abf5 1 (pc' := 1) (lv' := [(0, .ref a)]) (st' := [.ref a]) rfl ?_
  refine mi_getf okJx4a65c_size_8abf5 rfl fg_RJx4a65c_48 hE ha hc (v := .int n) rfl ?_
  exact mi_ret_i okJx4a65c_size_8abf5 rfl rfl rfl ⟨rfl, rfl⟩
theorem hx_m1 (x : Int32) : x < 0 ∨ (-1 : Int32) < x := by
  by_cases c : x < 0
  · exact Or.inl c
  · refine Or.inr ?_
    rw [Int32.lt_iff_toInt_lt] at c ⊢
    rw [show (0 : Int32).toInt = 0 by decide] at c
    rw [show (-1 : Int32).toInt = -1 by decide]
    omega
theorem i_gt {x : Int32} {n : Nat} (hn : n < 2147483647) (h : nI (n + 1) ≤ x) : nI n < x := by
  rw [Int32.le_iff_toInt_le, nI_toInt (by omega)] at h
  rw [Int32.lt_iff_toInt_lt, nI_toInt (by omega)]
  omega
set_option maxHeartbeats 4000000 in
set_option maxRecDepth 100000 in
theorem m_isNoTrack {X : mi_X} {h : mi_H} {M : Nat} (hw : mo_W M h) {th : Int32} {u : mo_U} (hc : h.2 M = mo_c M th u) {x : Int32} : mi_S pP X kX9_isNoTrack 1 [.ref M, .int x] h 0 0 (fun r h1 => r = some (.int 1) ∧ h1 = h) := by
  refine enX9_isNoTrack (Nat.le_of_ble_eq_true rfl) ?_
  refine mi_blk okX9_isNoTrack 3 (pc' := 3) (lv' := [(0, .ref M), (1, .int x)]) (st' := [.ref M, .int 0, .int x]) rfl ?_
  refine mi_getf okX9_isNoTrack rfl fg_RX9_21 (show 6 ≤ _ by have := hw.1; omega) (show _ < h.1 by have := hw.1; omega) hc (v := .ref (M + 3)) rfl ?_
  refine mi_callV okX9_isNoTrack (mc := 0) (ms := 0) (mc' := 0) (ms' := 0) (b := (M + 3)) (As := []) (st := [.int 0, .int x]) rfl cv_RX9_42 rfl (by decide) (show 6 ≤ _ by have := hw.1; omega) (show _ < h.1 by have := hw.1; omega) hw.2.2.1 rfl (Nat.le_of_ble_eq_true rfl) (m_size (h := h) (show 6 ≤ _ by have := hw.1; omega) (show _ < h.1 by have := hw.1; omega) hw.2.2.1) (fun r h1 q => ?_)
  obtain ⟨rfl, e9⟩ := q; have e9 := e9.symm; subst e9
  change mi_WX _ pP X kX9_isNoTrack 1 0 0 9 [(0, .ref M), (1, .int x)] [.int 0, .int 0, .int x] h _
  refine mi_blk okX9_isNoTrack 2 (pc' := 11) (lv' := [(0, .ref M), (1, .int x)]) (st' := [.int (-1), .int 0, .int x]) rfl ?_
  refine mi_callS okX9_isNoTrack (mc := 0) (ms := 0) (mc' := 0) (ms' := 0) (As := [.int x, .int 0, .int (-1)]) (st := []) rfl cs_RX9_46 rfl (by decide) (Nat.le_of_ble_eq_true rfl) (m_isIn_0 (hx_m1 x)) (fun r h1 q => ?_)
  obtain ⟨rfl, e9⟩ := q; have e9 := e9.symm; subst e9
  change mi_WX _ pP X kX9_isNoTrack 1 0 0 14 [(0, .ref M), (1, .int x)] [.int 0] h _
  refine mi_if_ne okX9_isNoTrack rfl rfl (fun c_14 => absurd (by decide) c_14) (fun c_14 => ?_)
  refine mi_blk okX9_isNoTrack 2 (pc' := 22) (lv' := [(0, .ref M), (1, .int x)]) (st' := [.int 1]) rfl ?_
  exact mi_ret_i okX9_isNoTrack rfl rfl rfl ⟨rfl, rfl⟩
set_option maxHeartbeats 4000000 in
set_option maxRecDepth 100000 in
theorem m_isNoSector_1 {X : mi_X} {h : mi_H} {x : Int32} (hx : x < 0 ∨ nI 240 ≤ x) : mi_S pP X kX9_isNoSector 1 [.int x] h 0 0 (fun r h1 => r = some (.int 1) ∧ h1 = h) := by
  refine enX9_isNoSector (Nat.le_of_ble_eq_true rfl) ?_
  refine mi_blk okX9_isNoSector 3 (pc' := 5) (lv' := [(0, .int x)]) (st' := [.int 239, .int 0, .int x]) rfl ?_
  refine mi_callS okX9_isNoSector (mc := 0) (ms := 0) (mc' := 0) (ms' := 0) (As := [.int x, .int 0, .int 239]) (st := []) rfl cs_RX9_46 rfl (by decide) (Nat.le_of_ble_eq_true rfl) (m_isIn_0 (hx.imp id (i_gt (by decide)))) (fun r h1 q => ?_)
  obtain ⟨rfl, e9⟩ := q; have e9 := e9.symm; subst e9
  change mi_WX _ pP X kX9_isNoSector 1 0 0 8 [(0, .int x)] [.int 0] h _
  refine mi_if_ne okX9_isNoSector rfl rfl (fun c_8 => absurd (by decide) c_8) (fun c_8 => ?_)
  refine mi_blk okX9_isNoSector 2 (pc' := 16) (lv' := [(0, .int x)]) (st' := [.int 1]) rfl ?_
  exact mi_ret_i okX9_isNoSector rfl rfl rfl ⟨rfl, rfl⟩
set_option maxHeartbeats 4000000 in
set_option maxRecDepth 100000 in
theorem m_isNoSector_0 {X : mi_X} {h : mi_H} {k : Nat} (hk : k < 240) : mi_S pP X kX9_isNoSector 1 [.int (nI k)] h 0 0 (fun r h1 => r = some (.int 0) ∧ h1 = h) := by
  refine enX9_isNoSector (Nat.le_of_ble_eq_true rfl) ?_
  refine mi_blk okX9_isNoSector 3 (pc' := 5) (lv' := [(0, .int (nI k))]) (st' := [.int 239, .int 0, .int (nI k)]) rfl ?_
  refine mi_callS okX9_isNoSector (mc := 0) (ms := 0) (mc' := 0) (ms' := 0) (As := [.int (nI k), .int 0, .int 239]) (st := []) rfl cs_RX9_46 rfl (by decide) (Nat.le_of_ble_eq_true rfl) (m_isIn_1 (nI_pos (by omega)) (nI_nlt (a := 239) (b := k) (by omega) (by omega))) (fun r h1 q => ?_)
  obtain ⟨rfl, e9⟩ := q; have e9 := e9.symm; subst e9
  change mi_WX _ pP X kX9_isNoSector 1 0 0 8 [(0, .int (nI k))] [.int 1] h _
  refine mi_if_ne okX9_isNoSector rfl rfl (fun c_8 => ?_) (fun c_8 => absurd c_8 (by decide))
  refine mi_blk okX9_isNoSector 1 (pc' := 16) (lv' := [(0, .int (nI k))]) (st' := [.int 0]) rfl ?_
  exact mi_ret_i okX9_isNoSector rfl rfl rfl ⟨rfl, rfl⟩
set_option maxHeartbeats 4000000 in
set_option maxRecDepth 100000 in
theorem m_isNoFile_1 {X : mi_X} {h : mi_H} {M : Nat} {x : Int32} (hx : x < 0 ∨ nI 10 ≤ x) : mi_S pP X kX9_isNoFile 1 [.ref M, .int x] h 0 0 (fun r h1 => r = some (.int 1) ∧ h1 = h) := by
  refine enX9_isNoFile (Nat.le_of_ble_eq_true rfl) ?_
  refine mi_blk okX9_isNoFile 3 (pc' := 4) (lv' := [(0, .ref M), (1, .int x)]) (st' := [.int 9, .int 0, .int x]) rfl ?_
  refine mi_callS okX9_isNoFile (mc := 0) (ms := 0) (mc' := 0) (ms' := 0) (As := [.int x, .int 0, .int 9]) (st := []) rfl cs_RX9_46 rfl (by decide) (Nat.le_of_ble_eq_true rfl) (m_isIn_0 (hx.imp id (i_gt (by decide)))) (fun r h1 q => ?_)
  obtain ⟨rfl, e9⟩ := q; have e9 := e9.symm; subst e9
  change mi_WX _ pP X kX9_isNoFile 1 0 0 7 [(0, .ref M), (1, .int x)] [.int 0] h _
  refine mi_if_ne okX9_isNoFile rfl rfl (fun c_7 => absurd (by decide) c_7) (fun c_7 => ?_)
  refine mi_blk okX9_isNoFile 2 (pc' := 15) (lv' := [(0, .ref M), (1, .int x)]) (st' := [.int 1]) rfl ?_
  exact mi_ret_i okX9_isNoFile rfl rfl rfl ⟨rfl, rfl⟩
set_option maxHeartbeats 4000000 in
set_option maxRecDepth 100000 in
theorem m_isNoFile_0 {X : mi_X} {h : mi_H} {M : Nat} {k : Nat} (hk : k < 10) : mi_S pP X kX9_isNoFile 1 [.ref M, .int (nI k)] h 0 0 (fun r h1 => r = some (.int 0) ∧ h1 = h) := by
  refine enX9_isNoFile (Nat.le_of_ble_eq_true rfl) ?_
  refine mi_blk okX9_isNoFile 3 (pc' := 4) (lv' := [(0, .ref M), (1, .int (nI k))]) (st' := [.int 9, .int 0, .int (nI k)]) rfl ?_
  refine mi_callS okX9_isNoFile (mc := 0) (ms := 0) (mc' := 0) (ms' := 0) (As := [.int (nI k), .int 0, .int 9]) (st := []) rfl cs_RX9_46 rfl (by decide) (Nat.le_of_ble_eq_true rfl) (m_isIn_1 (nI_pos (by omega)) (nI_nlt (a := 9) (b := k) (by omega) (by omega))) (fun r h1 q => ?_)
  obtain ⟨rfl, e9⟩ := q; have e9 := e9.symm; subst e9
  change mi_WX _ pP X kX9_isNoFile 1 0 0 7 [(0, .ref M), (1, .int (nI k))] [.int 1] h _
  refine mi_if_ne okX9_isNoFile rfl rfl (fun c_7 => ?_) (fun c_7 => absurd c_7 (by decide))
  refine mi_blk okX9_isNoFile 1 (pc' := 15) (lv' := [(0, .ref M), (1, .int (nI k))]) (st' := [.int 0]) rfl ?_
  exact mi_ret_i okX9_isNoFile rfl rfl rfl ⟨rfl, rfl⟩
set_option maxHeartbeats 4000000 in
set_option maxRecDepth 100000 in
theorem m_mended {X : mi_X} {h : mi_H} : mi_S pP X kX9_mended 0 [.null] h 0 0 (fun r h1 => r = some .null ∧ h1 = h) := by
  refine enX9_mended (Nat.le_of_ble_eq_true rfl) ?_
  refine mi_blk okX9_mended 1 (pc' := 1) (lv' := [(0, .null)]) (st' := [.null]) rfl ?_
  refine mi_ifnonnull_n okX9_mended rfl ?_
  refine mi_blk okX9_mended 1 (pc' := 5) (lv' := [(0, .null)]) (st' := [.null]) rfl ?_
  exact mi_ret_n okX9_mended rfl rfl (Or.inr ⟨_, rfl⟩) ⟨rfl, rfl⟩
set_option maxHeartbeats 4000000 in
set_option maxRecDepth 100000 in
theorem m_worth2 {X : mi_X} {h : mi_H} {M : Nat} {x : Int32} : mi_S pP X kX9_worth 1 [.ref M, .int x, .null] h 0 0 (fun r h1 => r = some (.int 2) ∧ h1 = h) := by
  refine enX9_worth (Nat.le_of_ble_eq_true rfl) ?_
  refine mi_blk okX9_worth 1 (pc' := 1) (lv' := [(0, .ref M), (1, .int x), (2, .null)]) (st' := [.null]) rfl ?_
  refine mi_callS okX9_worth (mc := 0) (ms := 0) (mc' := 0) (ms' := 0) (As := [.null]) (st := []) rfl cs_RX9_84 rfl (by decide) (Nat.le_of_ble_eq_true rfl) m_mended (fun r h1 q => ?_)
  obtain ⟨rfl, e9⟩ := q; have e9 := e9.symm; subst e9
  change mi_WX _ pP X kX9_worth 1 0 0 4 [(0, .ref M), (1, .int x), (2, .null)] [.null] h _
  refine mi_blk okX9_worth 2 (pc' := 6) (lv' := [(3, .null), (0, .ref M), (1, .int x), (2, .null)]) (st' := [.null]) rfl ?_
  refine mi_ifnonnull_n okX9_worth rfl ?_
  refine mi_blk okX9_worth 1 (pc' := 10) (lv' := [(3, .null), (0, .ref M), (1, .int x), (2, .null)]) (st' := [.int 2]) rfl ?_
  exact mi_ret_i okX9_worth rfl rfl rfl ⟨rfl, rfl⟩
set_option maxHeartbeats 4000000 in
set_option maxRecDepth 100000 in
theorem m_worth {X : mi_X} {h : mi_H} {M : Nat} (hw : mo_W M h) {th : Int32} {u : mo_U} (hc : h.2 M = mo_c M th u) {k : Nat} (hk : k < 240) : mi_S pP X kX9_worth_ 2 [.ref M, .int (nI k)] h 0 0 (fun r h1 => r = some (.int 2) ∧ h1 = h) := by
  refine enX9_worth_ (Nat.le_of_ble_eq_true rfl) ?_
  refine mi_blk okX9_worth_ 3 (pc' := 3) (lv' := [(0, .ref M), (1, .int (nI k))]) (st' := [.ref M, .int (nI k), .ref M]) rfl ?_
  refine mi_getf okX9_worth_ rfl fg_RX9_11 (show 6 ≤ _ by have := hw.1; omega) (show _ < h.1 by have := hw.1; omega) hc (v := .ref (M + 1)) rfl ?_
  refine mi_blk okX9_worth_ 1 (pc' := 7) (lv' := [(0, .ref M), (1, .int (nI k))]) (st' := [.int (nI k), .ref (M + 1), .int (nI k), .ref M]) rfl ?_
  refine mo_aab okX9_worth_ (k := k) rfl hw hk ?_
  refine mi_callV okX9_worth_ (mc := 0) (ms := 0) (mc' := 0) (ms' := 0) (b := M) (As := [.int (nI k), .null]) (st := []) rfl cv_RX9_100 rfl (by decide) (show 6 ≤ _ by have := hw.1; omega) (show _ < h.1 by have := hw.1; omega) hc rfl (Nat.le_of_ble_eq_true rfl) m_worth2 (fun r h1 q => ?_)
  obtain ⟨rfl, e9⟩ := q; have e9 := e9.symm; subst e9
  change mi_WX _ pP X kX9_worth_ 2 0 0 11 [(0, .ref M), (1, .int (nI k))] [.int 2] h _
  exact mi_ret_i okX9_worth_ rfl rfl rfl ⟨rfl, rfl⟩
set_option maxHeartbeats 4000000 in
set_option maxRecDepth 100000 in
theorem m_marks {X : mi_X} {h : mi_H} (hE : 6 ≤ h.1) : mi_S pP X kX9_marks 0 [.null] h 1 5 (fun r h1 => r = some (.ref h.1) ∧ h1 = mi_psh h (.inl (0, 5, .inl (va_up (va_up (va_up (va_up (va_up (fun _ => 0) 0 1) 1 0) 2 0) 3 0) 4 0)))) := by
  refine enX9_marks (Nat.le_of_ble_eq_true rfl) ?_
  refine mi_blk okX9_marks 1 (pc' := 1) (lv' := [(0, .null)]) (st' := [.int 5]) rfl ?_
  refine mi_newa okX9_marks (mc := 0) (ms := 0) (t := 0) (N := 5) (z := .inl (fun _ => 0)) rfl rfl ac_int (by decide) (by decide) (by decide) (fun _ => rfl) (fun _ => rfl) ?_
  change mi_WX _ pP X kX9_marks 0 0 0 3 [(0, .null)] [.ref h.1] (mi_psh h (.inl (0, 5, .inl (fun _ => 0)))) _
  refine mi_blk okX9_marks 3 (pc' := 6) (lv' := [(0, .null)]) (st' := [.int 1, .int 0, .ref h.1, .ref h.1]) rfl ?_
  refine mo_ist okX9_marks (j := 0) rfl hE (Nat.lt_succ_self _) mi_psh_self rfl (by decide) (by decide) ?_
  rw [show mi_set (mi_psh h (.inl (0, 5, .inl (fun _ => 0)))) h.1 (.inl (0, 5, .inl (va_up (fun _ => 0) 0 1))) = mi_psh h (.inl (0, 5, .inl (va_up (fun _ => 0) 0 1))) from mi_set_psh]
  refine mi_blk okX9_marks 3 (pc' := 10) (lv' := [(0, .null)]) (st' := [.int 0, .int 1, .ref h.1, .ref h.1]) rfl ?_
  refine mo_ist okX9_marks (j := 1) rfl hE (Nat.lt_succ_self _) mi_psh_self rfl (by decide) (by decide) ?_
  rw [show mi_set (mi_psh h (.inl (0, 5, .inl (va_up (fun _ => 0) 0 1)))) h.1 (.inl (0, 5, .inl (va_up (va_up (fun _ => 0) 0 1) 1 0))) = mi_psh h (.inl (0, 5, .inl (va_up (va_up (fun _ => 0) 0 1) 1 0))) from mi_set_psh]
  refine mi_blk okX9_marks 3 (pc' := 14) (lv' := [(0, .null)]) (st' := [.int 0, .int 2, .ref h.1, .ref h.1]) rfl ?_
  refine mo_ist okX9_marks (j := 2) rfl hE (Nat.lt_succ_self _) mi_psh_self rfl (by decide) (by decide) ?_
  rw [show mi_set (mi_psh h (.inl (0, 5, .inl (va_up (va_up (fun _ => 0) 0 1) 1 0)))) h.1 (.inl (0, 5, .inl (va_up (va_up (va_up (fun _ => 0) 0 1) 1 0) 2 0))) = mi_psh h (.inl (0, 5, .inl (va_up (va_up (va_up (fun _ => 0) 0 1) 1 0) 2 0))) from mi_set_psh]
  refine mi_blk okX9_marks 3 (pc' := 18) (lv' := [(0, .null)]) (st' := [.int 0, .int 3, .ref h.1, .ref h.1]) rfl ?_
  refine mo_ist okX9_marks (j := 3) rfl hE (Nat.lt_succ_self _) mi_psh_self rfl (by decide) (by decide) ?_
  rw [show mi_set (mi_psh h (.inl (0, 5, .inl (va_up (va_up (va_up (fun _ => 0) 0 1) 1 0) 2 0)))) h.1 (.inl (0, 5, .inl (va_up (va_up (va_up (va_up (fun _ => 0) 0 1) 1 0) 2 0) 3 0))) = mi_psh h (.inl (0, 5, .inl (va_up (va_up (va_up (va_up (fun _ => 0) 0 1) 1 0) 2 0) 3 0))) from mi_set_psh]
  refine mi_blk okX9_marks 3 (pc' := 22) (lv' := [(0, .null)]) (st' := [.int 0, .int 4, .ref h.1, .ref h.1]) rfl ?_
  refine mo_ist okX9_marks (j := 4) rfl hE (Nat.lt_succ_self _) mi_psh_self rfl (by decide) (by decide) ?_
  rw [show mi_set (mi_psh h (.inl (0, 5, .inl (va_up (va_up (va_up (va_up (fun _ => 0) 0 1) 1 0) 2 0) 3 0)))) h.1 (.inl (0, 5, .inl (va_up (va_up (va_up (va_up (va_up (fun _ => 0) 0 1) 1 0) 2 0) 3 0) 4 0))) = mi_psh h (.inl (0, 5, .inl (va_up (va_up (va_up (va_up (va_up (fun _ => 0) 0 1) 1 0) 2 0) 3 0) 4 0))) from mi_set_psh]
  refine mi_blk okX9_marks 5 (pc' := 29) (lv' := [(2, .int 0), (1, .ref h.1), (0, .null)]) (st' := [.int 16, .int 0]) rfl ?_
  refine mi_ic_ge okX9_marks rfl rfl (fun c_29 => absurd c_29 (by decide)) (fun c_29 => ?_)
  refine mi_blk okX9_marks 1 (pc' := 33) (lv' := [(2, .int 0), (1, .ref h.1), (0, .null)]) (st' := [.null]) rfl ?_
  refine mi_ifnull_n okX9_marks rfl rfl ?_
  refine mi_blk okX9_marks 1 (pc' := 120) (lv' := [(2, .int 0), (1, .ref h.1), (0, .null)]) (st' := [.ref h.1]) rfl ?_
  exact mi_ret_a okX9_marks rfl rfl (Or.inr ⟨_, rfl⟩) ⟨rfl, rfl⟩
