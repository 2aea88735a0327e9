-- the constructor of a PitHouse
theorem mi_mul_lt {h : mi_H} {tO tI n m x : Nat} (hx : x < h.1) : (mi_mul h tO tI n m).2 x = h.2 x := by
  show (if x = h.1 then _ else if h.1 < x ∧ x ≤ h.1 + n then _ else h.2 x) = _
  rw [if_neg (by omega), if_neg (by omega)]
theorem mi_mul_o {h : mi_H} {tO tI n m : Nat} : (mi_mul h tO tI n m).2 h.1 = .inl (tO, n, .inr (.inr (.inr (.inr (fun i => if i < n then some (h.1 + 1 + i) else none))))) := if_pos rfl
theorem mi_mul_i {h : mi_H} {tO tI n m i : Nat} (hi : i < n) : (mi_mul h tO tI n m).2 (h.1 + 1 + i) = .inl (tI, m, .inl (fun _ => 0)) := by
  show (if h.1 + 1 + i = h.1 then _ else if h.1 < h.1 + 1 + i ∧ h.1 + 1 + i ≤ h.1 + n then _ else h.2 _) = _
  rw [if_neg (by omega), if_pos ⟨by omega, by omega⟩]
/-- the FILES' tables, empty -/
def in_F (a : Nat) (f : Nat → mi_C) : Prop := f a = .inr (4, [.ref (a + 1), .ref (a + 12)]) ∧ (∃ g, f (a + 1) = ph_r 3 10 g ∧ ∀ i, i < 10 → g i = some (a + 2 + i)) ∧ (∃ g, f (a + 12) = ph_r 3 10 g ∧ ∀ i, i < 10 → g i = some (a + 13 + i)) ∧
  (∀ i, i < 10 → f (a + 2 + i) = .inl (0, 3, .inl (fun _ => 0))) ∧ ∀ i, i < 10 → f (a + 13 + i) = .inl (0, 3, .inl (fun _ => 0))
set_option maxHeartbeats 4000000 in
set_option maxRecDepth 100000 in
theorem c_initFileTable {X : mi_X} {a : Nat} {f0 : Nat → mi_C} (hE : 6 ≤ a) (hc : f0 a = .inr (4, [.null, .null])) : mi_S pP X kX3_init 1 [.ref a] (a + 1, f0) 22 80 (fun r h1 => r = none ∧ h1.1 = a + 23 ∧ in_F a h1.2 ∧ ∀ b, b < a → h1.2 b = f0 b) := by
  refine enX3_init (Nat.le_of_ble_eq_true rfl) ?_
  refine mi_blk okX3_init 1 (pc' := 1) (lv' := [(0, .ref a)]) (st' := [.ref a]) rfl ?_
  refine mi_objInit okX3_init rfl ob_RX3_3 ob_i ob_c (by decide) (Nat.le_of_ble_eq_true rfl) ?_
  refine mi_blk okX3_init 3 (pc' := 8) (lv' := [(0, .ref a)]) (st' := [.int (nI 3), .int (nI 10), .ref a]) rfl ?_
  refine mi_mna okX3_init (mc := 11) (ms := 40) (tO := 3) (tI := 0) (n := 10) (m := 3) rfl rfl rfl cl_RX3_9 (by decide +kernel) ac_int (by decide) (by decide) ?_
  have z1 : (a : Nat) < a + 1 := Nat.lt_succ_self a
  obtain ⟨H1, e1⟩ : ∃ g, g = mi_mul (a + 1, f0) 3 0 10 3 := ⟨_, rfl⟩
  change mi_W pP X kX3_init 1 11 40 12 [(0, .ref a)] [.ref (a + 1), .ref a] (mi_mul (a + 1, f0) 3 0 10 3) _
  rw [← e1]
  have s1 : H1.1 = a + 1 + 1 + 10 := by rw [e1]; rfl
  refine mi_putF' okX3_init rfl fd_RX3_11 rfl hE (by rw [s1]; omega) (by rw [e1]; exact (mi_mul_lt z1).trans hc) (fs' := [.ref (a + 1), .null]) rfl (Nat.le_of_ble_eq_true rfl) rfl rfl ?_
  obtain ⟨H2, e2⟩ : ∃ g, g = mi_set H1 a (.inr (4, [.ref (a + 1), .null])) := ⟨_, rfl⟩
  rw [← e2]
  have s2 : H2.1 = a + 12 := by rw [e2]; exact s1
  refine mi_blk okX3_init 3 (pc' := 19) (lv' := [(0, .ref a)]) (st' := [.int (nI 3), .int (nI 10), .ref a]) rfl ?_
  refine mi_mna okX3_init (mc := 0) (ms := 0) (tO := 3) (tI := 0) (n := 10) (m := 3) rfl rfl rfl cl_RX3_9 (by decide +kernel) ac_int (by decide) (by decide) ?_
  obtain ⟨H3, e3⟩ : ∃ g, g = mi_mul H2 3 0 10 3 := ⟨_, rfl⟩
  rw [← e3, s2]
  have s3 : H3.1 = a + 23 := by rw [e3]; show H2.1 + 1 + 10 = _; rw [s2]
  have o3 : ∀ x, x < a + 12 → H3.2 x = H2.2 x := fun x hx => by rw [e3]; exact mi_mul_lt (by rw [s2]; exact hx)
  refine mi_putF' okX3_init rfl fd_RX3_16 rfl hE (by rw [s3]; omega) ((o3 a (by omega)).trans (by rw [e2]; exact mi_set_self)) (fs' := [.ref (a + 1), .ref (a + 12)]) rfl (Nat.le_of_ble_eq_true rfl) rfl rfl ?_
  refine mi_ret_v okX3_init rfl rfl ⟨rfl, s3, ⟨mi_set_self, ?_, ?_, fun i hi => ?_, fun i hi => ?_⟩, fun b hb => ?_⟩
  · refine ⟨fun i => if i < 10 then some (a + 1 + 1 + i) else none, ?_, fun i hi => (if_pos hi).trans (by rfl)⟩
    rw [mi_set_ne (by omega), o3 _ (by omega), e2, mi_set_ne (by omega), e1]
    exact mi_mul_o
  · refine ⟨fun i => if i < 10 then some (a + 12 + 1 + i) else none, ?_, fun i hi => (if_pos hi).trans (by rfl)⟩
    rw [mi_set_ne (by omega), e3]
    have := mi_mul_o (h := H2) (tO := 3) (tI := 0) (n := 10) (m := 3)
    rw [s2] at this
    exact this
  · rw [mi_set_ne (by omega), o3 _ (by omega), e2, mi_set_ne (by omega), e1]
    exact mi_mul_i (h := (a + 1, f0)) hi
  · rw [mi_set_ne (by omega), e3]
    have := mi_mul_i (h := H2) (tO := 3) (tI := 0) (m := 3) hi
    rw [s2] at this
    exact this
  · rw [mi_set_ne (by omega), o3 _ (by omega), e2, mi_set_ne (by omega), e1]
    exact mi_mul_lt (by show b < a + 1; omega)
/-- a new DISC, but for its SECTORS and TRACKS -/
def in_R (a : Nat) (f : Nat → mi_C) : Prop := f a = ph_c a (0, 0, 0, 4, 0) ∧ in_F (a + 3) f ∧ f (a + 26) = dv_c 0 FP.dconst0 0 0 0 ∧ f (a + 27) = be_c (a + 28) (a + 29) ∧ f (a + 28) = bl_c 0 0 ∧ f (a + 29) = mk_c (1, 0, 0, 0)
def in_S (a j : Nat) (f : Nat → mi_C) : Prop := (∃ g, f (a + 1) = ph_r 4 240 g ∧ ∀ i, i < j → g i = some (a + 30 + 2 * i)) ∧ ∀ s, s < j → f (a + 30 + 2 * s) = se_c (nI s) (a + 31 + 2 * s) (0, 0, 0, 2, -1, 0, 0, 0) ∧ f (a + 31 + 2 * s) = bl_c 0 0
def in_T (a j : Nat) (f : Nat → mi_C) : Prop := (∃ g, f (a + 2) = ph_r 5 8 g ∧ ∀ i, i < j → g i = some (a + 510 + i)) ∧ ∀ t, t < j → f (a + 510 + t) = tr_c (0, 0, 0, 0, 0, 0, 0)
theorem in_F.of {a : Nat} {f g : Nat → mi_C} (h : in_F a f) (e : ∀ x, a ≤ x → x < a + 23 → g x = f x) : in_F a g := by
  obtain ⟨h1, ⟨g1, h2, h3⟩, ⟨g2, h4, h5⟩, h6, h7⟩ := h
  exact ⟨(e _ (by omega) (by omega)).trans h1, ⟨g1, (e _ (by omega) (by omega)).trans h2, h3⟩, ⟨g2, (e _ (by omega) (by omega)).trans h4, h5⟩, fun i hi => (e _ (by omega) (by omega)).trans (h6 i hi), fun i hi => (e _ (by omega) (by omega)).trans (h7 i hi)⟩
theorem in_R.of {a : Nat} {f g : Nat → mi_C} (h : in_R a f) (e : ∀ x, a ≤ x → x < a + 30 → x ≠ a + 1 → x ≠ a + 2 → g x = f x) : in_R a g := by
  obtain ⟨h1, h2, h3, h4, h5, h6⟩ := h
  exact ⟨(e _ (by omega) (by omega) (by omega) (by omega)).trans h1, h2.of fun x h8 h9 => e x (by omega) (by omega) (by omega) (by omega), (e _ (by omega) (by omega) (by omega) (by omega)).trans h3, (e _ (by omega) (by omega) (by omega) (by omega)).trans h4, (e _ (by omega) (by omega) (by omega) (by omega)).trans h5, (e _ (by omega) (by omega) (by omega) (by omega)).trans h6⟩
set_option maxHeartbeats 4000000 in
set_option maxRecDepth 100000 in
theorem l_inT {X : mi_X} {a : Nat} (hE : 6 ≤ a) {Q : Option Value → mi_H → Prop} {h0 : Nat → mi_C} (kk : ∀ f, in_R a f → in_S a 240 f → in_T a 8 f → (∀ b, b < a → f b = h0 b) → Q none (a + 518, f)) : ∀ (n j : Nat), j + n = 8 → ∀ f : Nat → mi_C, in_R a f → in_S a 240 f → in_T a j f → (∀ b, b < a → f b = h0 b) → mi_W pP X kX8_init 3 n (7 * n) 112 [(1, .int (nI j)), (0, .ref a)] [] (a + 510 + j, f) Q
  | 0, j, hj, f, hR, hS, hT, hO => by
    have ej : j = 8 := by omega
    subst ej
    refine mi_blk okX8_init 2 (pc' := 115) (lv' := [(1, .int (nI 8)), (0, .ref a)]) (st' := [.int 8, .int (nI 8)]) rfl ?_
    refine mi_ic_ge okX8_init rfl rfl (fun _ => ?_) (fun c => absurd (by decide) c)
    exact mi_ret_v okX8_init rfl rfl (kk f hR hS hT hO)
  | n + 1, j, hj, f, hR, hS, hT, hO => by
    refine mi_blk okX8_init 2 (pc' := 115) (lv' := [(1, .int (nI j)), (0, .ref a)]) (st' := [.int 8, .int (nI j)]) rfl ?_
    refine mi_ic_ge okX8_init rfl rfl (fun c => absurd c (nI_ge (a := j) (b := 8) (by omega) (by decide))) (fun _ => ?_)
    refine mi_blk okX8_init 1 (pc' := 119) (lv' := [(1, .int (nI j)), (0, .ref a)]) (st' := [.ref a]) rfl ?_
    refine mi_getf okX8_init rfl fg_RX8_17 hE (by show a < a + 510 + j; omega) hR.1 (v := .ref (a + 2)) rfl ?_
    refine mi_blk okX8_init 1 (pc' := 123) (lv' := [(1, .int (nI j)), (0, .ref a)]) (st' := [.int (nI j), .ref (a + 2)]) rfl ?_
    rw [show 7 * (n + 1) = 7 * n + 7 by omega]
    refine mi_new okX8_init (mc := n) (ms := 7 * n) (ci := 8) (fs := [.int 0, .int 0, .int 0, .int 0, .int 0, .int 0, .int 0]) rfl cfX7 cl_RX8_15 it_RX7 iz_RX7 (by decide +kernel) (fun _ => rfl) ?_
    change mi_W pP X kX8_init 3 n (7 * n) 126 [(1, .int (nI j)), (0, .ref a)] [.ref (a + 510 + j), .int (nI j), .ref (a + 2)] (mi_psh (a + 510 + j, f) (.inr (8, [.int 0, .int 0, .int 0, .int 0, .int 0, .int 0, .int 0]))) _
    refine mi_blk okX8_init 1 (pc' := 127) (lv' := [(1, .int (nI j)), (0, .ref a)]) (st' := [.ref (a + 510 + j), .ref (a + 510 + j), .int (nI j), .ref (a + 2)]) rfl ?_
    refine mi_callI okX8_init (mc := n) (ms := 7 * n) (mc' := 0) (ms' := 0) (b := a + 510 + j) (As := []) (st := [.ref (a + 510 + j), .int (nI j), .ref (a + 2)]) rfl ci_RX8_62 rfl (by decide) (Nat.le_of_ble_eq_true rfl) (c_initTrack (h := mi_psh (a + 510 + j, f) (.inr (8, [.int 0, .int 0, .int 0, .int 0, .int 0, .int 0, .int 0]))) (show 6 ≤ a + 510 + j by omega) (Nat.lt_succ_self _) mi_psh_self) (fun r h1 q => ?_)
    obtain ⟨rfl, e9⟩ := q; have e9 := e9.symm; subst e9
    change mi_W pP X kX8_init 3 n (7 * n) 130 [(1, .int (nI j)), (0, .ref a)] [.ref (a + 510 + j), .int (nI j), .ref (a + 2)] (mi_set (mi_psh (a + 510 + j, f) (.inr (8, [.int 0, .int 0, .int 0, .int 0, .int 0, .int 0, .int 0]))) (a + 510 + j) (.inr (8, [.int 0, .int 0, .int 0, .int 0, .int 0, .int 0, .int 0]))) _
    rw [show mi_set (mi_psh (a + 510 + j, f) (.inr (8, [.int 0, .int 0, .int 0, .int 0, .int 0, .int 0, .int 0]))) (a + 510 + j) (.inr (8, [.int 0, .int 0, .int 0, .int 0, .int 0, .int 0, .int 0])) = mi_psh (a + 510 + j, f) (.inr (8, [.int 0, .int 0, .int 0, .int 0, .int 0, .int 0, .int 0])) from mi_set_psh]
    obtain ⟨g, g1, g2⟩ := hT.1
    refine mi_aast okX8_init (r := (RX7, TX7, 7)) (ci := 8) (t := 5) (n := 8) (f := g) rfl rfl (show 6 ≤ a + 2 by omega) (show a + 2 < a + 510 + j + 1 by omega) ((mi_psh_lt (show a + 2 < a + 510 + j by omega)).trans g1) (show 6 ≤ a + 510 + j by omega) (Nat.lt_succ_self _) mi_psh_self rfl (vp_in_lt (by omega) (by decide)) ?_
    rw [nI_clamp (by omega)]
    refine mi_blk okX8_init 2 (pc' := 112) (lv' := [(1, .int (nI j + 1)), (0, .ref a)]) (st' := []) rfl ?_
    rw [← nI_succ]
    obtain ⟨f', ef⟩ : ∃ f', f' = (mi_set (mi_psh (a + 510 + j, f) (.inr (8, [.int 0, .int 0, .int 0, .int 0, .int 0, .int 0, .int 0]))) (a + 2) (.inl (5, 8, .inr (.inr (.inr (.inr (va_up g j (some (a + 510 + j))))))))).2 := ⟨_, rfl⟩
    change mi_W pP X kX8_init 3 n (7 * n) 112 [(1, .int (nI (j + 1))), (0, .ref a)] [] (a + 510 + (j + 1), (mi_set (mi_psh (a + 510 + j, f) (.inr (8, [.int 0, .int 0, .int 0, .int 0, .int 0, .int 0, .int 0]))) (a + 2) (.inl (5, 8, .inr (.inr (.inr (.inr (va_up g j (some (a + 510 + j))))))))).2) _
    rw [← ef]
    have old : ∀ x, x < a + 510 + j → x ≠ a + 2 → f' x = f x := fun x h1 h2 => by rw [ef, mi_set_ne h2]; exact mi_psh_lt h1
    have hs : f' (a + 2) = ph_r 5 8 (va_up g j (some (a + 510 + j))) := by rw [ef]; exact mi_set_self
    have hn : f' (a + 510 + j) = tr_c (0, 0, 0, 0, 0, 0, 0) := by rw [ef, mi_set_ne (by omega)]; exact mi_psh_self (h := (a + 510 + j, f))
    refine l_inT hE kk n (j + 1) (by omega) f' (hR.of fun x h1 h2 h3 h4 => old x (by omega) h4) ⟨?_, fun s h1 => ?_⟩ ⟨⟨_, hs, fun i hi => ?_⟩, fun t ht => ?_⟩ (fun b hb => (old b (by omega) (by omega)).trans (hO b hb))
    · obtain ⟨g', k1, k2⟩ := hS.1
      exact ⟨g', (old _ (by omega) (by omega)).trans k1, k2⟩
    · exact ⟨(old _ (by omega) (by omega)).trans (hS.2 s h1).1, (old _ (by omega) (by omega)).trans (hS.2 s h1).2⟩
    · show (if i = j then some (a + 510 + j) else g i) = _
      by_cases e : i = j
      · rw [if_pos e, e]
      · rw [if_neg e]
        exact g2 i (by omega)
    · by_cases e : t = j
      · rw [e]
        exact hn
      · rw [old _ (by omega) (by omega)]
        exact hT.2 t (by omega)
set_option maxHeartbeats 4000000 in
set_option maxRecDepth 100000 in
theorem l_inS {X : mi_X} {a : Nat} (hE : 6 ≤ a) {Q : Option Value → mi_H → Prop} {h0 : Nat → mi_C} (kk : ∀ f, in_R a f → in_S a 240 f → in_T a 8 f → (∀ b, b < a → f b = h0 b) → Q none (a + 518, f)) : ∀ (n j : Nat), j + n = 240 → ∀ f : Nat → mi_C, in_R a f → in_S a j f → in_T a 0 f → (∀ b, b < a → f b = h0 b) → mi_W pP X kX8_init 3 (2 * n + 8) (12 * n + 56) 83 [(1, .int (nI j)), (0, .ref a)] [] (a + 30 + 2 * j, f) Q
  | 0, j, hj, f, hR, hS, hT, hO => by
    have ej : j = 240 := by omega
    subst ej
    refine mi_blk okX8_init 2 (pc' := 87) (lv' := [(1, .int (nI 240)), (0, .ref a)]) (st' := [.int 240, .int (nI 240)]) rfl ?_
    refine mi_ic_ge okX8_init rfl rfl (fun _ => ?_) (fun c => absurd (by decide) c)
    refine mi_blk okX8_init 2 (pc' := 112) (lv' := [(1, .int (nI 0)), (0, .ref a)]) (st' := []) rfl ?_
    exact l_inT hE kk 8 0 rfl f hR hS hT hO
  | n + 1, j, hj, f, hR, hS, hT, hO => by
    refine mi_blk okX8_init 2 (pc' := 87) (lv' := [(1, .int (nI j)), (0, .ref a)]) (st' := [.int 240, .int (nI j)]) rfl ?_
    refine mi_ic_ge okX8_init rfl rfl (fun c => absurd c (nI_ge (a := j) (b := 240) (by omega) (by decide))) (fun _ => ?_)
    refine mi_blk okX8_init 1 (pc' := 91) (lv' := [(1, .int (nI j)), (0, .ref a)]) (st' := [.ref a]) rfl ?_
    refine mi_getf okX8_init rfl fg_RX8_11 hE (by show a < a + 30 + 2 * j; omega) hR.1 (v := .ref (a + 1)) rfl ?_
    refine mi_blk okX8_init 1 (pc' := 95) (lv' := [(1, .int (nI j)), (0, .ref a)]) (st' := [.int (nI j), .ref (a + 1)]) rfl ?_
    rw [show 2 * (n + 1) + 8 = (2 * n + 8 + 1) + 1 by omega, show 12 * (n + 1) + 56 = (12 * n + 56 + 2) + 10 by omega]
    refine mi_new okX8_init (mc := 2 * n + 8 + 1) (ms := 12 * n + 56 + 2) (ci := 6) (fs := [.int 0, .null, .int 0, .int 0, .int 0, .int 0, .long 0, .int 0, .int 0, .int 0]) rfl cfX5 cl_RX8_9 it_RX5 iz_RX5 (by decide +kernel) (fun _ => rfl) ?_
    change mi_W pP X kX8_init 3 (2 * n + 8 + 1) (12 * n + 56 + 2) 98 [(1, .int (nI j)), (0, .ref a)] [.ref (a + 30 + 2 * j), .int (nI j), .ref (a + 1)] (mi_psh (a + 30 + 2 * j, f) (.inr (6, [.int 0, .null, .int 0, .int 0, .int 0, .int 0, .long 0, .int 0, .int 0, .int 0]))) _
    refine mi_blk okX8_init 2 (pc' := 100) (lv' := [(1, .int (nI j)), (0, .ref a)]) (st' := [.int (nI j), .ref (a + 30 + 2 * j), .ref (a + 30 + 2 * j), .int (nI j), .ref (a + 1)]) rfl ?_
    refine mi_callI okX8_init (mc := 2 * n + 8) (ms := 12 * n + 56) (mc' := 1) (ms' := 2) (b := a + 30 + 2 * j) (As := [.int (nI j)]) (st := [.ref (a + 30 + 2 * j), .int (nI j), .ref (a + 1)]) rfl ci_RX8_59 rfl (by decide) (Nat.le_of_ble_eq_true rfl) (c_initSector (h := mi_psh (a + 30 + 2 * j, f) (.inr (6, [.int 0, .null, .int 0, .int 0, .int 0, .int 0, .long 0, .int 0, .int 0, .int 0]))) (show 6 ≤ a + 30 + 2 * j by omega) (Nat.lt_succ_self _) mi_psh_self) (fun r h1 q => ?_)
    obtain ⟨rfl, e1⟩ := q
    change mi_W pP X kX8_init 3 (2 * n + 8) (12 * n + 56) 103 [(1, .int (nI j)), (0, .ref a)] [.ref (a + 30 + 2 * j), .int (nI j), .ref (a + 1)] h1 _
    obtain ⟨g, g1, g2⟩ := hS.1
    have s1 : h1.1 = a + 32 + 2 * j := by
      rw [e1]
      show a + 30 + 2 * j + 1 + 1 = _
      omega
    have old1 : ∀ x, x < a + 30 + 2 * j → h1.2 x = f x := fun x h1 => by
      rw [e1, mi_set_ne (by omega), mi_psh_lt (show x < a + 30 + 2 * j + 1 by omega)]
      exact mi_psh_lt h1
    have hn1 : h1.2 (a + 30 + 2 * j) = se_c (nI j) (a + 31 + 2 * j) (0, 0, 0, 2, -1, 0, 0, 0) := by
      rw [e1, mi_set_self, show a + 31 + 2 * j = (a + 30 + 2 * j) + 1 by omega]
      rfl
    have hn2 : h1.2 (a + 31 + 2 * j) = bl_c 0 0 := by
      rw [e1, mi_set_ne (by omega), show a + 31 + 2 * j = (mi_psh (a + 30 + 2 * j, f) (.inr (6, [.int 0, .null, .int 0, .int 0, .int 0, .int 0, .long 0, .int 0, .int 0, .int 0]))).1 by show _ = a + 30 + 2 * j + 1; omega]
      exact mi_psh_self
    refine mi_aast okX8_init (r := (RX5, TX5, 10)) (ci := 6) (t := 4) (n := 240) (f := g) rfl rfl (show 6 ≤ a + 1 by omega) (by rw [s1]; omega) ((old1 _ (by omega)).trans g1) (show 6 ≤ a + 30 + 2 * j by omega) (by rw [s1]; omega) hn1 rfl (vp_in_lt (by omega) (by decide)) ?_
    rw [nI_clamp (by omega)]
    refine mi_blk okX8_init 2 (pc' := 83) (lv' := [(1, .int (nI j + 1)), (0, .ref a)]) (st' := []) rfl ?_
    rw [← nI_succ]
    obtain ⟨f', ef⟩ : ∃ f', f' = (mi_set h1 (a + 1) (.inl (4, 240, .inr (.inr (.inr (.inr (va_up g j (some (a + 30 + 2 * j))))))))).2 := ⟨_, rfl⟩
    change mi_W pP X kX8_init 3 (2 * n + 8) (12 * n + 56) 83 [(1, .int (nI (j + 1))), (0, .ref a)] [] (h1.1, (mi_set h1 (a + 1) (.inl (4, 240, .inr (.inr (.inr (.inr (va_up g j (some (a + 30 + 2 * j))))))))).2) _
    rw [← ef, s1, show a + 32 + 2 * j = a + 30 + 2 * (j + 1) by omega]
    have old : ∀ x, x < a + 30 + 2 * j → x ≠ a + 1 → f' x = f x := fun x h1 h2 => by rw [ef, mi_set_ne h2]; exact old1 x h1
    have hs : f' (a + 1) = ph_r 4 240 (va_up g j (some (a + 30 + 2 * j))) := by rw [ef]; exact mi_set_self
    have n1 : f' (a + 30 + 2 * j) = se_c (nI j) (a + 31 + 2 * j) (0, 0, 0, 2, -1, 0, 0, 0) := by rw [ef, mi_set_ne (by omega)]; exact hn1
    have n2 : f' (a + 31 + 2 * j) = bl_c 0 0 := by rw [ef, mi_set_ne (by omega)]; exact hn2
    refine l_inS hE kk n (j + 1) (by omega) f' (hR.of fun x h1 h2 h3 h4 => old x (by omega) h3) ⟨⟨_, hs, fun i hi => ?_⟩, fun t ht => ?_⟩ ⟨?_, fun s h1 => absurd h1 (by omega)⟩ (fun b hb => (old b (by omega) (by omega)).trans (hO b hb))
    · show (if i = j then some (a + 30 + 2 * j) else g i) = _
      by_cases e : i = j
      · rw [if_pos e, e]
      · rw [if_neg e]
        exact g2 i (by omega)
    · by_cases e : t = j
      · rw [e]
        exact ⟨n1, n2⟩
      · exact ⟨(old _ (by omega) (by omega)).trans (hS.2 t (by omega)).1, (old _ (by omega) (by omega)).trans (hS.2 t (by omega)).2⟩
    · obtain ⟨g', k1, k2⟩ := hT.1
      exact ⟨g', (old _ (by omega) (by omega)).trans k1, k2⟩
def ph_0 : ph_T := ((0, 0, 0, 4, 0), (fun _ => (0, 0, 0, 2, -1, 0, 0, 0)), (fun _ => (0, 0)), (fun _ => (0, 0, 0, 0, 0, 0, 0)), (0, FP.dconst0, 0, 0, 0), (0, 0), (1, 0, 0, 0))
theorem in_W {a : Nat} (hE : 6 ≤ a) {f : Nat → mi_C} (hR : in_R a f) (hS : in_S a 240 f) (hT : in_T a 8 f) : ph_W a ph_0 (fun _ _ => 0) (fun _ _ => 0) (a + 518, f) := by
  obtain ⟨r1, ⟨k1, k2, k3, k4, k5⟩, r3, r4, r5, r6⟩ := hR
  exact ⟨⟨hE, Nat.le_refl _⟩, r1, hS.1, hT.1, k1, k2, k3, k4, k5, r3, r4, r5, r6, fun s hs => (hS.2 s hs).1, fun s hs => (hS.2 s hs).2, hT.2⟩
set_option maxHeartbeats 4000000 in
set_option maxRecDepth 100000 in
theorem c_init {X : mi_X} {a : Nat} {f0 : Nat → mi_C} (hE : 6 ≤ a) (hc : f0 a = .inr (0, [.null, .null, .null, .null, .null, .int 0, .int 0, .int 0, .int 0, .int 0])) : mi_S pP X kX8_init 3 [.ref a] (a + 1, f0) 517 3279 (fun r h1 => r = none ∧ h1.1 = a + 518 ∧ ph_W a ph_0 (fun _ _ => 0) (fun _ _ => 0) h1 ∧ ∀ b, b < a → h1.2 b = f0 b) := by
  refine enX8_init (Nat.le_of_ble_eq_true rfl) ?_
  refine mi_blk okX8_init 1 (pc' := 1) (lv' := [(0, .ref a)]) (st' := [.ref a]) rfl ?_
  refine mi_objInit okX8_init rfl ob_RX8_1 ob_i ob_c (by decide) (Nat.le_of_ble_eq_true rfl) ?_
  refine mi_blk okX8_init 2 (pc' := 8) (lv' := [(0, .ref a)]) (st' := [.int 240, .ref a]) rfl ?_
  refine mi_newq okX8_init (mc := 516) (ms := 3039) (t := 4) (N := 240) (C := RX5) rfl rfl cl_RX8_9 (by decide +kernel) (by decide) (by decide) (by decide) ?_
  obtain ⟨f1, e1⟩ : ∃ g, g = (mi_psh (a + 1, f0) (ph_r 4 240 (fun _ => none))).2 := ⟨_, rfl⟩
  change mi_W pP X kX8_init 3 516 3039 11 [(0, .ref a)] [.ref (a + 1), .ref a] (a + 2, (mi_psh (a + 1, f0) (ph_r 4 240 (fun _ => none))).2) _
  rw [← e1]
  have old1 : ∀ x, x < a + 1 → f1 x = f0 x := fun x hx => by rw [e1]; exact mi_psh_lt hx
  have n1 : f1 (a + 1) = ph_r 4 240 (fun _ => none) := by rw [e1]; exact mi_psh_self (h := (a + 1, f0))
  refine mi_putF' okX8_init rfl fd_RX8_11 rfl hE (show a < a + 2 by omega) ((old1 a (by omega)).trans hc) (fs' := [.ref (a + 1), .null, .null, .null, .null, .int 0, .int 0, .int 0, .int 0, .int 0]) rfl (Nat.le_of_ble_eq_true rfl) rfl rfl ?_
  refine mi_blk okX8_init 2 (pc' := 17) (lv' := [(0, .ref a)]) (st' := [.int 8, .ref a]) rfl ?_
  refine mi_newq okX8_init (mc := 515) (ms := 3031) (t := 5) (N := 8) (C := RX7) rfl rfl cl_RX8_15 (by decide +kernel) (by decide) (by decide) (by decide) ?_
  obtain ⟨f2, e2⟩ : ∃ g, g = (mi_psh (mi_set (a + 2, f1) a (.inr (0, [.ref (a + 1), .null, .null, .null, .null, .int 0, .int 0, .int 0, .int 0, .int 0]))) (ph_r 5 8 (fun _ => none))).2 := ⟨_, rfl⟩
  change mi_W pP X kX8_init 3 515 3031 20 [(0, .ref a)] [.ref (a + 2), .ref a] (a + 3, (mi_psh (mi_set (a + 2, f1) a (.inr (0, [.ref (a + 1), .null, .null, .null, .null, .int 0, .int 0, .int 0, .int 0, .int 0]))) (ph_r 5 8 (fun _ => none))).2) _
  rw [← e2]
  have old2 : ∀ x, x < a + 2 → x ≠ a → f2 x = f1 x := fun x hx h2 => by rw [e2, mi_psh_lt hx]; exact mi_set_ne h2
  have c2 : f2 a = .inr (0, [.ref (a + 1), .null, .null, .null, .null, .int 0, .int 0, .int 0, .int 0, .int 0]) := by rw [e2, mi_psh_lt (show a < a + 2 by omega)]; exact mi_set_self
  have n2 : f2 (a + 2) = ph_r 5 8 (fun _ => none) := by rw [e2]; exact mi_psh_self (h := mi_set (a + 2, f1) a (.inr (0, [.ref (a + 1), .null, .null, .null, .null, .int 0, .int 0, .int 0, .int 0, .int 0])))
  refine mi_putF' okX8_init rfl fd_RX8_17 rfl hE (show a < a + 3 by omega) c2 (fs' := [.ref (a + 1), .ref (a + 2), .null, .null, .null, .int 0, .int 0, .int 0, .int 0, .int 0]) rfl (Nat.le_of_ble_eq_true rfl) rfl rfl ?_
  refine mi_blk okX8_init 1 (pc' := 24) (lv' := [(0, .ref a)]) (st' := [.ref a]) rfl ?_
  refine mi_new okX8_init (mc := 514) (ms := 3029) (ci := 4) (fs := [.null, .null]) rfl cfX3 cl_RX8_21 it_RX3 iz_RX3 (by decide +kernel) (fun _ => rfl) ?_
  obtain ⟨f3, e3⟩ : ∃ g, g = (mi_psh (mi_set (a + 3, f2) a (.inr (0, [.ref (a + 1), .ref (a + 2), .null, .null, .null, .int 0, .int 0, .int 0, .int 0, .int 0]))) (.inr (4, [.null, .null]))).2 := ⟨_, rfl⟩
  change mi_W pP X kX8_init 3 514 3029 27 [(0, .ref a)] [.ref (a + 3), .ref a] (a + 4, (mi_psh (mi_set (a + 3, f2) a (.inr (0, [.ref (a + 1), .ref (a + 2), .null, .null, .null, .int 0, .int 0, .int 0, .int 0, .int 0]))) (.inr (4, [.null, .null]))).2) _
  rw [← e3]
  have old3 : ∀ x, x < a + 3 → x ≠ a → f3 x = f2 x := fun x hx h2 => by rw [e3, mi_psh_lt hx]; exact mi_set_ne h2
  have c3 : f3 a = .inr (0, [.ref (a + 1), .ref (a + 2), .null, .null, .null, .int 0, .int 0, .int 0, .int 0, .int 0]) := by rw [e3, mi_psh_lt (show a < a + 3 by omega)]; exact mi_set_self
  have n3 : f3 (a + 3) = .inr (4, [.null, .null]) := by rw [e3]; exact mi_psh_self (h := mi_set (a + 3, f2) a (.inr (0, [.ref (a + 1), .ref (a + 2), .null, .null, .null, .int 0, .int 0, .int 0, .int 0, .int 0])))
  refine mi_blk okX8_init 1 (pc' := 28) (lv' := [(0, .ref a)]) (st' := [.ref (a + 3), .ref (a + 3), .ref a]) rfl ?_
  refine mi_callI okX8_init (mc := 492) (ms := 2949) (mc' := 22) (ms' := 80) (b := a + 3) (As := []) (st := [.ref (a + 3), .ref a]) rfl ci_RX8_23 rfl (by decide) (Nat.le_of_ble_eq_true rfl) (c_initFileTable (a := a + 3) (show 6 ≤ a + 3 by omega) n3) (fun r h1 q => ?_)
  obtain ⟨rfl, s4, t4, o4⟩ := q
  obtain ⟨q4, f4⟩ := h1
  have s4 : q4 = a + 26 := s4
  subst s4
  change mi_W pP X kX8_init 3 492 2949 31 [(0, .ref a)] [.ref (a + 3), .ref a] (a + 26, f4) _
  have o4 : ∀ b, b < a + 3 → f4 b = f3 b := o4
  have c4 : f4 a = .inr (0, [.ref (a + 1), .ref (a + 2), .null, .null, .null, .int 0, .int 0, .int 0, .int 0, .int 0]) := (o4 a (by omega)).trans c3
  refine mi_putF' okX8_init rfl fd_RX8_24 rfl hE (show a < a + 26 by omega) c4 (fs' := [.ref (a + 1), .ref (a + 2), .ref (a + 3), .null, .null, .int 0, .int 0, .int 0, .int 0, .int 0]) rfl (Nat.le_of_ble_eq_true rfl) rfl rfl ?_
  refine mi_blk okX8_init 1 (pc' := 35) (lv' := [(0, .ref a)]) (st' := [.ref a]) rfl ?_
  refine mi_new okX8_init (mc := 491) (ms := 2944) (ci := 3) (fs := [.int 0, .double 0, .int 0, .int 0, .int 0]) rfl cfX2 cl_RX8_28 it_RX2 iz_RX2 (by decide +kernel) (fun _ => rfl) ?_
  change mi_W pP X kX8_init 3 491 2944 38 [(0, .ref a)] [.ref (a + 26), .ref a] (mi_psh (mi_set (a + 26, f4) a (.inr (0, [.ref (a + 1), .ref (a + 2), .ref (a + 3), .null, .null, .int 0, .int 0, .int 0, .int 0, .int 0]))) (.inr (3, [.int 0, .double 0, .int 0, .int 0, .int 0]))) _
  obtain ⟨g5, e5⟩ : ∃ g, g = mi_set (a + 26, f4) a (.inr (0, [.ref (a + 1), .ref (a + 2), .ref (a + 3), .null, .null, .int 0, .int 0, .int 0, .int 0, .int 0])) := ⟨_, rfl⟩
  have s5 : g5.1 = a + 26 := by rw [e5]; rfl
  rw [← e5]
  refine mi_blk okX8_init 1 (pc' := 39) (lv' := [(0, .ref a)]) (st' := [.ref (a + 26), .ref (a + 26), .ref a]) rfl ?_
  refine mi_callI okX8_init (mc := 491) (ms := 2944) (mc' := 0) (ms' := 0) (b := a + 26) (As := []) (st := [.ref (a + 26), .ref a]) rfl ci_RX8_30 rfl (by decide) (Nat.le_of_ble_eq_true rfl) (c_initDrive (h := mi_psh g5 (.inr (3, [.int 0, .double 0, .int 0, .int 0, .int 0]))) (show 6 ≤ a + 26 by omega) (by show a + 26 < g5.1 + 1; omega) (by rw [← s5]; exact mi_psh_self)) (fun r h1 q => ?_)
  obtain ⟨rfl, e6⟩ := q
  obtain ⟨q6, f6⟩ := h1
  have s6 : q6 = a + 27 := (congrArg Prod.fst e6).trans (by show g5.1 + 1 = _; rw [s5])
  subst s6
  change mi_W pP X kX8_init 3 491 2944 42 [(0, .ref a)] [.ref (a + 26), .ref a] (a + 27, f6) _
  have e6 := congrArg Prod.snd e6
  have o6 : ∀ x, x < a + 26 → x ≠ a → f6 x = f4 x := fun x hx h2 => by
    rw [show f6 = _ from e6, mi_set_ne (by omega), mi_psh_lt (by rw [s5]; exact hx), e5]
    exact mi_set_ne h2
  have c6 : f6 a = .inr (0, [.ref (a + 1), .ref (a + 2), .ref (a + 3), .null, .null, .int 0, .int 0, .int 0, .int 0, .int 0]) := by
    rw [show f6 = _ from e6, mi_set_ne (by omega), mi_psh_lt (by rw [s5]; omega), e5]
    exact mi_set_self
  have n6 : f6 (a + 26) = dv_c 0 FP.dconst0 0 0 0 := by
    rw [show f6 = _ from e6]
    exact mi_set_self
  refine mi_putF' okX8_init rfl fd_RX8_31 rfl hE (show a < a + 27 by omega) c6 (fs' := [.ref (a + 1), .ref (a + 2), .ref (a + 3), .ref (a + 26), .null, .int 0, .int 0, .int 0, .int 0, .int 0]) rfl (Nat.le_of_ble_eq_true rfl) rfl rfl ?_
  refine mi_blk okX8_init 1 (pc' := 46) (lv' := [(0, .ref a)]) (st' := [.ref a]) rfl ?_
  refine mi_new okX8_init (mc := 490) (ms := 2942) (ci := 1) (fs := [.null, .null]) rfl cfX0 cl_RX8_35 it_RX0 iz_RX0 (by decide +kernel) (fun _ => rfl) ?_
  change mi_W pP X kX8_init 3 490 2942 49 [(0, .ref a)] [.ref (a + 27), .ref a] (mi_psh (mi_set (a + 27, f6) a (.inr (0, [.ref (a + 1), .ref (a + 2), .ref (a + 3), .ref (a + 26), .null, .int 0, .int 0, .int 0, .int 0, .int 0]))) (.inr (1, [.null, .null]))) _
  obtain ⟨g7, e7⟩ : ∃ g, g = mi_set (a + 27, f6) a (.inr (0, [.ref (a + 1), .ref (a + 2), .ref (a + 3), .ref (a + 26), .null, .int 0, .int 0, .int 0, .int 0, .int 0])) := ⟨_, rfl⟩
  have s7 : g7.1 = a + 27 := by rw [e7]; rfl
  rw [← e7]
  obtain ⟨g8, e8⟩ : ∃ g, g = mi_psh g7 (.inr (1, [.null, .null])) := ⟨_, rfl⟩
  have s8 : g8.1 = a + 28 := by rw [e8]; show g7.1 + 1 = _; rw [s7]
  have n8 : g8.2 (a + 27) = .inr (1, [.null, .null]) := by rw [e8, ← s7]; exact mi_psh_self
  have o8 : ∀ x, x < a + 27 → g8.2 x = g7.2 x := fun x hx => by rw [e8]; exact mi_psh_lt (by rw [s7]; exact hx)
  rw [← e8]
  refine mi_blk okX8_init 1 (pc' := 50) (lv' := [(0, .ref a)]) (st' := [.ref (a + 27), .ref (a + 27), .ref a]) rfl ?_
  refine mi_callI okX8_init (mc := 488) (ms := 2936) (mc' := 2) (ms' := 6) (b := a + 27) (As := []) (st := [.ref (a + 27), .ref a]) rfl ci_RX8_37 rfl (by decide) (Nat.le_of_ble_eq_true rfl) (c_initBench (h := g8) (show 6 ≤ a + 27 by omega) (by omega) n8) (fun r h1 q => ?_)
  obtain ⟨rfl, e9⟩ := q
  rw [s8] at e9
  obtain ⟨q9, f9⟩ := h1
  have s9 : q9 = a + 30 := (congrArg Prod.fst e9).trans (by show g8.1 + 1 + 1 = _; rw [s8])
  subst s9
  change mi_W pP X kX8_init 3 488 2936 53 [(0, .ref a)] [.ref (a + 27), .ref a] (a + 30, f9) _
  have e9 := congrArg Prod.snd e9
  have o9 : ∀ x, x < a + 27 → f9 x = g8.2 x := fun x hx => by
    rw [show f9 = _ from e9, mi_set_ne (by omega), mi_psh_lt (show x < g8.1 + 1 by omega), mi_set_ne (by omega)]
    exact mi_psh_lt (by omega)
  have c9 : f9 a = .inr (0, [.ref (a + 1), .ref (a + 2), .ref (a + 3), .ref (a + 26), .null, .int 0, .int 0, .int 0, .int 0, .int 0]) := by
    rw [o9 a (by omega), o8 a (by omega), e7]
    exact mi_set_self
  have o10 : ∀ x, x < a + 27 → x ≠ a → f9 x = f6 x := fun x hx h2 => by
    rw [o9 x hx, o8 x hx, e7]
    exact mi_set_ne h2
  have n27 : f9 (a + 27) = be_c (a + 28) (a + 29) := by
    rw [show f9 = _ from e9]
    exact mi_set_self
  have n28 : f9 (a + 28) = bl_c 0 0 := by
    rw [show f9 = _ from e9, mi_set_ne (by omega), mi_psh_lt (show a + 28 < g8.1 + 1 by omega), mi_set_ne (by omega), ← s8]
    exact mi_psh_self
  have n29 : f9 (a + 29) = mk_c (1, 0, 0, 0) := by
    rw [show f9 = _ from e9, mi_set_ne (by omega), show a + 29 = (mi_set (mi_psh g8 (.inr (2, [.long 0, .int 0]))) (a + 27) (.inr (1, [.ref (a + 28), .null]))).1 by show _ = g8.1 + 1; rw [s8]]
    exact mi_psh_self
  refine mi_putF' okX8_init rfl fd_RX8_38 rfl hE (show a < a + 30 by omega) c9 (fs' := [.ref (a + 1), .ref (a + 2), .ref (a + 3), .ref (a + 26), .ref (a + 27), .int 0, .int 0, .int 0, .int 0, .int 0]) rfl (Nat.le_of_ble_eq_true rfl) rfl rfl ?_
  refine mi_blk okX8_init 2 (pc' := 58) (lv' := [(0, .ref a)]) (st' := [.int 0, .ref a]) rfl ?_
  refine mi_putf' okX8_init rfl fd_RX8_42 hE (show a < a + 30 by omega) mi_set_self (fs' := [.ref (a + 1), .ref (a + 2), .ref (a + 3), .ref (a + 26), .ref (a + 27), .int 0, .int 0, .int 0, .int 0, .int 0]) rfl (Nat.le_of_ble_eq_true rfl) rfl rfl ?_
  rw [mi_set_set]
  refine mi_blk okX8_init 2 (pc' := 63) (lv' := [(0, .ref a)]) (st' := [.int 0, .ref a]) rfl ?_
  refine mi_putf' okX8_init rfl fd_RX8_46 hE (show a < a + 30 by omega) mi_set_self (fs' := [.ref (a + 1), .ref (a + 2), .ref (a + 3), .ref (a + 26), .ref (a + 27), .int 0, .int 0, .int 0, .int 0, .int 0]) rfl (Nat.le_of_ble_eq_true rfl) rfl rfl ?_
  rw [mi_set_set]
  refine mi_blk okX8_init 2 (pc' := 68) (lv' := [(0, .ref a)]) (st' := [.int 0, .ref a]) rfl ?_
  refine mi_putf' okX8_init rfl fd_RX8_49 hE (show a < a + 30 by omega) mi_set_self (fs' := [.ref (a + 1), .ref (a + 2), .ref (a + 3), .ref (a + 26), .ref (a + 27), .int 0, .int 0, .int 0, .int 0, .int 0]) rfl (Nat.le_of_ble_eq_true rfl) rfl rfl ?_
  rw [mi_set_set]
  refine mi_blk okX8_init 2 (pc' := 73) (lv' := [(0, .ref a)]) (st' := [.int 4, .ref a]) rfl ?_
  refine mi_putf' okX8_init rfl fd_RX8_52 hE (show a < a + 30 by omega) mi_set_self (fs' := [.ref (a + 1), .ref (a + 2), .ref (a + 3), .ref (a + 26), .ref (a + 27), .int 0, .int 0, .int 0, .int 4, .int 0]) rfl (Nat.le_of_ble_eq_true rfl) rfl rfl ?_
  rw [mi_set_set]
  refine mi_blk okX8_init 2 (pc' := 78) (lv' := [(0, .ref a)]) (st' := [.int 0, .ref a]) rfl ?_
  refine mi_putf' okX8_init rfl fd_RX8_55 hE (show a < a + 30 by omega) mi_set_self (fs' := [.ref (a + 1), .ref (a + 2), .ref (a + 3), .ref (a + 26), .ref (a + 27), .int 0, .int 0, .int 0, .int 4, .int 0]) rfl (Nat.le_of_ble_eq_true rfl) rfl rfl ?_
  rw [mi_set_set]
  refine mi_blk okX8_init 2 (pc' := 83) (lv' := [(1, .int (nI 0)), (0, .ref a)]) (st' := []) rfl ?_
  obtain ⟨f, ef⟩ : ∃ f, f = (mi_set (a + 30, f9) a (ph_c a (0, 0, 0, 4, 0))).2 := ⟨_, rfl⟩
  change mi_W pP X kX8_init 3 488 2936 83 [(1, .int (nI 0)), (0, .ref a)] [] (a + 30, (mi_set (a + 30, f9) a (ph_c a (0, 0, 0, 4, 0))).2) _
  rw [← ef]
  have of : ∀ x, x ≠ a → f x = f9 x := fun x hx => by rw [ef]; exact mi_set_ne hx
  have c0 : f a = ph_c a (0, 0, 0, 4, 0) := by rw [ef]; exact mi_set_self
  refine l_inS hE (h0 := f0) (fun f' hR hS hT hO => ⟨rfl, rfl, in_W hE hR hS hT, hO⟩) 240 0 rfl f ⟨c0, ?_, ?_, ?_, ?_, ?_⟩ ⟨⟨fun _ => none, ?_, fun i hi => absurd hi (by omega)⟩, fun s hs => absurd hs (by omega)⟩ ⟨⟨fun _ => none, ?_, fun i hi => absurd hi (by omega)⟩, fun s hs => absurd hs (by omega)⟩ (fun b hb => ?_)
  · exact t4.of fun x h1 h2 => by rw [of x (by omega), o10 x (by omega) (by omega), o6 x (by omega) (by omega)]
  · rw [of _ (by omega), o10 _ (by omega) (by omega), n6]
  · rw [of _ (by omega), n27]
  · rw [of _ (by omega), n28]
  · rw [of _ (by omega), n29]
  · rw [of _ (by omega), o10 _ (by omega) (by omega), o6 _ (by omega) (by omega), o4 _ (by omega), old3 _ (by omega) (by omega), old2 _ (by omega) (by omega), n1]
  · rw [of _ (by omega), o10 _ (by omega) (by omega), o6 _ (by omega) (by omega), o4 _ (by omega), old3 _ (by omega) (by omega), n2]
  · rw [of _ (by omega), o10 _ (by omega) (by omega), o6 _ (by omega) (by omega), o4 _ (by omega), old3 _ (by omega) (by omega), old2 _ (by omega) (by omega), old1 _ (by omega)]
