theorem ph_W.psh {B : Nat} {q : ph_T} {fi le : Nat → Nat → Int32} {h : mi_H} (hw : ph_W B q fi le h) (c : mi_C) : ph_W B q fi le (mi_psh h c) := by
  obtain ⟨hz, hp, hs, ht, hf, hff, hfl, hfi, hle, hd, hbe, hc, hm, hS, hB, hT⟩ := hw
  have hz' := hz.2
  exact ⟨⟨hz.1, by show B + 518 ≤ h.1 + 1; omega⟩, ((mi_psh_lt (by omega)).trans hp), (let ⟨f, f1, f2⟩ := hs; ⟨f, (mi_psh_lt (by omega)).trans f1, f2⟩), (let ⟨f, f1, f2⟩ := ht; ⟨f, (mi_psh_lt (by omega)).trans f1, f2⟩), ((mi_psh_lt (by omega)).trans hf), (let ⟨f, f1, f2⟩ := hff; ⟨f, (mi_psh_lt (by omega)).trans f1, f2⟩), (let ⟨f, f1, f2⟩ := hfl; ⟨f, (mi_psh_lt (by omega)).trans f1, f2⟩), (fun i hi => (mi_psh_lt (by omega)).trans (hfi i hi)), (fun i hi => (mi_psh_lt (by omega)).trans (hle i hi)), ((mi_psh_lt (by omega)).trans hd), ((mi_psh_lt (by omega)).trans hbe), ((mi_psh_lt (by omega)).trans hc), ((mi_psh_lt (by omega)).trans hm), (fun i hi => (mi_psh_lt (by omega)).trans (hS i hi)), (fun i hi => (mi_psh_lt (by omega)).trans (hB i hi)), (fun i hi => (mi_psh_lt (by omega)).trans (hT i hi))⟩
theorem c_track {X : mi_X} {h : mi_H} {B : Nat} {q : (Nat → se_S) × (Nat → Int64 × Int32) × (Nat → tr_S) × (Nat × UInt64 × Int32 × Int32 × Int32) × (Int64 × Int32) × mk_S} {fi le : Nat → Nat → Int32} {t x g : Nat} {c : Int32} (hw : ph_W B ((1, nI t, nI x, c, 1), q) fi le h) (ht : t < 8) (hg1 : 1 ≤ g) (hg2 : g ≤ 40) (hx : x + 2 + g ≤ 240) : ∀ mo, mo < 2 → mi_S pP X kX8_track 1 [.ref B, .int (nI mo), .int (nI g)] h 0 0 (fun r h1 => r = some (.int (nI x + 2)) ∧ ph_X B ((1, nI t + 1, nI x + 2 + nI g, c, 1), q.1, q.2.1, va_up q.2.2.1 t (0, nI mo, nI x + 2, nI g, (q.2.2.1 t).2.2.2.2), q.2.2.2) fi le h h1)
  | 0, _ => c_track_0 hw ht hg1 hg2 hx
  | 1, _ => c_track_1 hw ht hg1 hg2 hx
  | mo + 2, hm => absurd hm (by omega)
set_option maxHeartbeats 4000000 in
set_option maxRecDepth 100000 in
theorem w_trk {X : mi_X} (hX0 : (X 0).1 < 100000) {B : Nat} {to : Nat → Int64} {Q : Option Value → mi_H → Prop} (kk : ∀ (x : Nat) (T : Nat → tr_S) (h : mi_H), LH B ((1, nI 3, nI x, 3, 1), ph_0.2.1, ph_0.2.2.1, T, ph_0.2.2.2.2) to h → (∀ i, i < 3 → ∃ (mo : Int32) (f g : Nat), T i = (0, mo, nI f, nI g, 0, 0, 0) ∧ (mo = 0 ∨ mo = 1) ∧ f + g ≤ 240) → mi_W pP X kL_law 7 0 0 75 [(7, .int (nI 0)), (6, .int 4), (4, .double FP.dconst0), (3, .int 0), (2, .ref (B + 518)), (1, .ref B), (0, .ref 0)] [] h Q) : ∀ (m t : Nat), t + m = 3 → ∀ (x : Nat) (T : Nat → tr_S) (h : mi_H), x ≤ 4 + 32 * t → LH B ((1, nI t, nI x, 3, 1), ph_0.2.1, ph_0.2.2.1, T, ph_0.2.2.2.2) to h → (∀ i, i < t → ∃ (mo : Int32) (f g : Nat), T i = (0, mo, nI f, nI g, 0, 0, 0) ∧ (mo = 0 ∨ mo = 1) ∧ f + g ≤ 240) → (∀ i, t ≤ i → T i = (0, 0, 0, 0, 0, 0, 0)) → mi_W pP X kL_law 7 0 0 30 [(7, .int (nI t)), (6, .int 4), (4, .double FP.dconst0), (3, .int 0), (2, .ref (B + 518)), (1, .ref B), (0, .ref 0)] [] h Q := by
  intro m
  induction m with
  | zero =>
    intro t ht x T h hx hL hT hz
    obtain rfl : t = 3 := by omega
    have hw := hL.1
    refine mi_blk okL_law_0 2 (pc' := 33) (lv' := [(7, .int (nI 3)), (6, .int 4), (4, .double FP.dconst0), (3, .int 0), (2, .ref (B + 518)), (1, .ref B), (0, .ref 0)]) (st' := [.int 3, .int (nI 3)]) rfl ?_
    refine mi_ic_ge okL_law_0 rfl rfl (fun c_33 => ?_) (fun c_33 => absurd (by decide) c_33)
    refine mi_blk okL_law_1 2 (pc' := 75) (lv' := [(7, .int 0), (6, .int 4), (4, .double FP.dconst0), (3, .int 0), (2, .ref (B + 518)), (1, .ref B), (0, .ref 0)]) (st' := []) rfl ?_
    exact kk x T h hL hT
  | succ m ih =>
    intro t ht x T h hx hL hT hz
    have hw := hL.1
    refine mi_blk okL_law_0 2 (pc' := 33) (lv' := [(7, .int (nI t)), (6, .int 4), (4, .double FP.dconst0), (3, .int 0), (2, .ref (B + 518)), (1, .ref B), (0, .ref 0)]) (st' := [.int 3, .int (nI t)]) rfl ?_
    refine mi_ic_ge okL_law_0 rfl rfl (fun c_33 => absurd c_33 (nI_ge (a := t) (b := 3) (by omega) (by decide))) (fun c_33 => ?_)
    refine mi_blk okL_law_0 3 (pc' := 40) (lv' := [(7, .int (nI t)), (6, .int 4), (4, .double FP.dconst0), (3, .int 0), (2, .ref (B + 518)), (1, .ref B), (0, .ref 0)]) (st' := [.int (nI t), .ref 0, .ref B]) rfl ?_
    refine mi_callS okL_law_0 (mc := 0) (ms := 0) (mc' := 0) (ms' := 0) (As := [.ref 0, .int (nI t)]) (st := [.ref B]) rfl cs_RL_9 rfl (by decide) (Nat.le_of_ble_eq_true rfl) (c_cell hX0 (i := t) (by omega)) (fun r h1 q9 => ?_)
    obtain ⟨v1, rfl, e9⟩ := q9; have e9 := e9.symm; subst e9
    change mi_W pP X kL_law 7 0 0 43 [(7, .int (nI t)), (6, .int 4), (4, .double FP.dconst0), (3, .int 0), (2, .ref (B + 518)), (1, .ref B), (0, .ref 0)] [.int v1, .ref B] h _
    refine mi_blk okL_law_0 1 (pc' := 44) (lv' := [(7, .int (nI t)), (6, .int 4), (4, .double FP.dconst0), (3, .int 0), (2, .ref (B + 518)), (1, .ref B), (0, .ref 0)]) (st' := [.int 2, .int v1, .ref B]) rfl ?_
    refine mi_callS okL_law_0 (mc := 0) (ms := 0) (mc' := 0) (ms' := 0) (As := [.int v1, .int 2]) (st := [.ref B]) rfl cs_RL_17 rfl (by decide) (Nat.le_of_ble_eq_true rfl) (c_below (x := v1) (n := 2) (by decide) (by decide)) (fun r h1 q9 => ?_)
    obtain ⟨j1, hj1, rfl, e9⟩ := q9; have e9 := e9.symm; subst e9
    change mi_W pP X kL_law 7 0 0 47 [(7, .int (nI t)), (6, .int 4), (4, .double FP.dconst0), (3, .int 0), (2, .ref (B + 518)), (1, .ref B), (0, .ref 0)] [.int (nI j1), .ref B] h _
    refine mi_blk okL_law_0 5 (pc' := 53) (lv' := [(7, .int (nI t)), (6, .int 4), (4, .double FP.dconst0), (3, .int 0), (2, .ref (B + 518)), (1, .ref B), (0, .ref 0)]) (st' := [.int ((nI t) + 3), .ref 0, .int 1, .int (nI j1), .ref B]) rfl ?_
    rw [show nI t + 3 = nI (t + 3) from nI_add t 3]
    refine mi_callS okL_law_0 (mc := 0) (ms := 0) (mc' := 0) (ms' := 0) (As := [.ref 0, .int (nI (t + 3))]) (st := [.int 1, .int (nI j1), .ref B]) rfl cs_RL_9 rfl (by decide) (Nat.le_of_ble_eq_true rfl) (c_cell hX0 (i := t + 3) (by omega)) (fun r h1 q9 => ?_)
    obtain ⟨v2, rfl, e9⟩ := q9; have e9 := e9.symm; subst e9
    change mi_W pP X kL_law 7 0 0 56 [(7, .int (nI t)), (6, .int 4), (4, .double FP.dconst0), (3, .int 0), (2, .ref (B + 518)), (1, .ref B), (0, .ref 0)] [.int v2, .int 1, .int (nI j1), .ref B] h _
    refine mi_blk okL_law_0 1 (pc' := 58) (lv' := [(7, .int (nI t)), (6, .int 4), (4, .double FP.dconst0), (3, .int 0), (2, .ref (B + 518)), (1, .ref B), (0, .ref 0)]) (st' := [.int 30, .int v2, .int 1, .int (nI j1), .ref B]) rfl ?_
    refine mi_callS okL_law_0 (mc := 0) (ms := 0) (mc' := 0) (ms' := 0) (As := [.int v2, .int 30]) (st := [.int 1, .int (nI j1), .ref B]) rfl cs_RL_17 rfl (by decide) (Nat.le_of_ble_eq_true rfl) (c_below (x := v2) (n := 30) (by decide) (by decide)) (fun r h1 q9 => ?_)
    obtain ⟨j2, hj2, rfl, e9⟩ := q9; have e9 := e9.symm; subst e9
    change mi_W pP X kL_law 7 0 0 61 [(7, .int (nI t)), (6, .int 4), (4, .double FP.dconst0), (3, .int 0), (2, .ref (B + 518)), (1, .ref B), (0, .ref 0)] [.int (nI j2), .int 1, .int (nI j1), .ref B] h _
    refine mi_blk okL_law_0 1 (pc' := 62) (lv' := [(7, .int (nI t)), (6, .int 4), (4, .double FP.dconst0), (3, .int 0), (2, .ref (B + 518)), (1, .ref B), (0, .ref 0)]) (st' := [.int (1 + (nI j2)), .int (nI j1), .ref B]) rfl ?_
    rw [show (1 : Int32) + nI j2 = nI (1 + j2) from nI_add 1 j2]
    refine mi_callV okL_law_0 (mc := 0) (ms := 0) (mc' := 0) (ms' := 0) (b := B) (As := [.int (nI j1), .int (nI (1 + j2))]) (st := []) rfl cv_RL_28 rfl (by decide) (show 6 ≤ _ by have := hw.z; omega) (show _ < h.1 by have := hw.z; omega) hw.ph rfl (Nat.le_of_ble_eq_true rfl) (c_track hw (show t < 8 by omega) (g := 1 + j2) (by omega) (by omega) (by omega) j1 hj1) (fun r h1 q9 => ?_)
    obtain ⟨rfl, hx⟩ := q9
    change mi_W pP X kL_law 7 0 0 65 [(7, .int (nI t)), (6, .int 4), (4, .double FP.dconst0), (3, .int 0), (2, .ref (B + 518)), (1, .ref B), (0, .ref 0)] [.int (nI x + 2)] h1 _
    refine mi_blk okL_law_0 3 (pc' := 30) (lv' := [(7, .int ((nI t) + 1)), (6, .int 4), (4, .double FP.dconst0), (3, .int 0), (2, .ref (B + 518)), (1, .ref B), (0, .ref 0)]) (st' := []) rfl ?_
    rw [← nI_succ]
    have hL1 := hL.go hx
    rw [← nI_succ, show nI x + 2 + nI (1 + j2) = nI (x + 2 + (1 + j2)) from by rw [show nI x + 2 = nI (x + 2) from nI_add x 2, nI_add], show nI x + 2 = nI (x + 2) from nI_add x 2] at hL1
    refine ih (t + 1) (by omega) (x + 2 + (1 + j2)) _ _ (by omega) hL1 (fun i hi => ?_) (fun i hi => ?_)
    · show ∃ mo f g, (if i = t then _ else T i) = _ ∧ _
      by_cases ei : i = t
      · rw [if_pos ei]
        refine ⟨nI j1, x + 2, 1 + j2, ?_, by rcases (show j1 = 0 ∨ j1 = 1 by omega) with z | z <;> (rw [z]; decide), by omega⟩
        show (0, nI j1, nI (x + 2), nI (1 + j2), (T t).2.2.2.2) = _
        rw [hz t (Nat.le_refl t)]
      · rw [if_neg ei]
        exact hT i (by omega)
    · show (if i = t then _ else T i) = _
      rw [if_neg (by omega)]
      exact hz i (by omega)
set_option maxHeartbeats 4000000 in
set_option maxRecDepth 100000 in
theorem c_law {X : mi_X} (hX0 : (X 0).1 < 100000) (hX1 : mi_X1 X) (hX4 : mi_X4 X) (hX : mi_X23 X) {B : Nat} {f0 : Nat → mi_C} (hE : 6 ≤ B) : mi_W pP X kL_law 7 519 3529 0 [(0, .ref 0)] [] (B, f0) (fun r _ => r = some (.int 1)) := by
  refine mi_new okL_law_0 (mc := 518) (ms := 3519) (ci := 0) (fs := [.null, .null, .null, .null, .null, .int 0, .int 0, .int 0, .int 0, .int 0]) rfl cfX8 cl_RL_21 it_RX8 iz_RX8 (by decide +kernel) (fun _ => rfl) ?_
  change mi_W pP X kL_law 7 518 3519 3 [(0, .ref 0)] [.ref B] (B + 1, va_up f0 B (.inr (0, [.null, .null, .null, .null, .null, .int 0, .int 0, .int 0, .int 0, .int 0]))) _
  refine mi_blk okL_law_0 1 (pc' := 4) (lv' := [(0, .ref 0)]) (st' := [.ref B, .ref B]) rfl ?_
  refine mi_callI okL_law_0 (mc := 1) (ms := 240) (mc' := 517) (ms' := 3279) (b := B) (As := []) (st := [.ref B]) rfl ci_RL_23 rfl (by decide) (Nat.le_of_ble_eq_true rfl) (c_init (a := B) (f0 := va_up f0 B (.inr (0, [.null, .null, .null, .null, .null, .int 0, .int 0, .int 0, .int 0, .int 0]))) hE (if_pos rfl)) (fun r h1 q => ?_)
  obtain ⟨rfl, s1, w1, -⟩ := q
  change mi_W pP X kL_law 7 1 240 7 [(0, .ref 0)] [.ref B] h1 _
  refine mi_blk okL_law_0 2 (pc' := 11) (lv' := [(1, .ref B), (0, .ref 0)]) (st' := [.int (nI 240)]) rfl ?_
  refine mi_newa okL_law_0 (mc := 0) (ms := 0) (atype := .long) (t := 1) (N := 240) (z := .inr (.inl (fun _ => 0))) rfl rfl ac_long (by decide) (nI_clamp (by decide)) (by decide) (fun _ => rfl) (fun _ => rfl) ?_
  change mi_W pP X kL_law 7 0 0 13 [(1, .ref B), (0, .ref 0)] [.ref h1.1] (mi_psh h1 (.inl (1, 240, .inr (.inl (fun _ => 0))))) _
  rw [s1]
  have hL0 : LH B ph_0 (fun _ => 0) (mi_psh h1 (.inl (1, 240, .inr (.inl (fun _ => 0))))) := ⟨w1.psh _, by rw [← s1]; exact mi_psh_self, by show h1.1 + 1 = _; rw [s1]⟩
  generalize mi_psh h1 (.inl (1, 240, .inr (.inl (fun _ => 0)))) = h2 at hL0 ⊢
  refine mi_blk okL_law_0 8 (pc' := 23) (lv' := [(6, .int 4), (4, .double FP.dconst0), (3, .int 0), (2, .ref (B + 518)), (1, .ref B), (0, .ref 0)]) (st' := [.ref B]) rfl ?_
  refine mi_callV okL_law_0 (mc := 0) (ms := 0) (mc' := 0) (ms' := 0) (b := B) (As := []) (st := []) rfl cv_RL_24 rfl (by decide) hE (by rw [hL0.2.2]; omega) hL0.1.ph rfl (Nat.le_of_ble_eq_true rfl) (c_session (q := ph_0.2) hL0.1) (fun r h3 q => ?_)
  obtain ⟨rfl, hx⟩ := q
  change mi_W pP X kL_law 7 0 0 26 [(6, .int 4), (4, .double FP.dconst0), (3, .int 0), (2, .ref (B + 518)), (1, .ref B), (0, .ref 0)] [.int 0] h3 _
  refine mi_blk okL_law_0 3 (pc' := 30) (lv' := [(7, .int (nI 0)), (6, .int 4), (4, .double FP.dconst0), (3, .int 0), (2, .ref (B + 518)), (1, .ref B), (0, .ref 0)]) (st' := []) rfl ?_
  refine w_trk hX0 (fun x T h hL hT => ?_) 3 0 rfl 4 ph_0.2.2.2.1 h3 (by decide) (hL0.go hx) (fun i hi => absurd hi (by omega)) (fun i _ => rfl)
  have hI : LI 0 ((1, nI 3, nI x, 3, 1), ph_0.2.1, ph_0.2.2.1, T, ph_0.2.2.2.2) (fun _ => 0) 0 := by
    refine ⟨⟨nI x, 3, rfl, by decide⟩, fun t ht => ?_, fun s _ hw => absurd rfl hw, ⟨show (0 : Nat) < 240 by decide, rfl, ck_0⟩, fun s _ => ⟨fun _ => rfl, fun hw => absurd rfl hw⟩, Or.inl rfl⟩
    obtain ⟨mo, f, g, e1, e2, e3⟩ := hT t ht
    exact ⟨mo, 0, f, g, 0, 0, e1, e2, Or.inl rfl, e3, Nat.le_refl _, Nat.zero_le _⟩
  refine w_loop hX0 hX1 hX4 hX (fun q to rot h {lf} hL hI => ?_) 80 0 rfl _ _ _ h 4 hL hI (show (3 : Int32) ≤ 4 by decide)
  refine mi_blk okL_law_4 2 (pc' := 421) (lv' := [(7, .int 0), (6, .int lf), (4, .double q.2.2.2.2.1.2.1), (3, .int rot), (2, .ref (B + 518)), (1, .ref B), (0, .ref 0)]) (st' := []) rfl ?_
  refine mi_blk okL_law_5 1 (pc' := 422) (lv' := [(7, .int 0), (6, .int lf), (4, .double q.2.2.2.2.1.2.1), (3, .int rot), (2, .ref (B + 518)), (1, .ref B), (0, .ref 0)]) (st' := [.int 0]) rfl ?_
  refine mi_blk okL_law_5 1 (pc' := 424) (lv' := [(8, .int 0), (7, .int 0), (6, .int lf), (4, .double q.2.2.2.2.1.2.1), (3, .int rot), (2, .ref (B + 518)), (1, .ref B), (0, .ref 0)]) (st' := []) rfl ?_
  change mi_W pP X kL_law 7 0 0 424 [(8, .int (nI 0)), (7, .int (wr_n q.2.1 0)), (6, .int lf), (4, .double q.2.2.2.2.1.2.1), (3, .int rot), (2, .ref (B + 518)), (1, .ref B), (0, .ref 0)] [] h _
  exact mi_WX.locs (by simp) (w_sees hX1 (fun q h hL hI => w_end hX hL hI) 240 0 rfl q h hL hI)
