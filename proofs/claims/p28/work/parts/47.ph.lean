/-- what may become of one SECTOR, SECTOR by SECTOR up to t -/
abbrev st_R : Type := Nat → se_S → Int64 × Int32 → se_S → Int64 × Int32 → Prop
def st_lt (R : st_R) (S0 : Nat → se_S) (b0 : Nat → Int64 × Int32) (t : Nat) (S : Nat → se_S) (b : Nat → Int64 × Int32) : Prop := (∀ s, s < t → R s (S0 s) (b0 s) (S s) (b s)) ∧ ∀ s, t ≤ s → S s = S0 s ∧ b s = b0 s
theorem st_lt.skip {R : st_R} (hr : ∀ s a b, R s a b a b) {S0 : Nat → se_S} {b0 : Nat → Int64 × Int32} {t : Nat} {S : Nat → se_S} {b : Nat → Int64 × Int32} (h : st_lt R S0 b0 t S b) : st_lt R S0 b0 (t + 1) S b := by
  refine ⟨fun s hs => ?_, fun s hs => h.2 s (by omega)⟩
  by_cases e : s = t
  · obtain ⟨h1, h2⟩ := h.2 s (by omega)
    rw [h1, h2]
    exact hr _ _ _
  · exact h.1 s (by omega)
theorem st_lt.step {R : st_R} {S0 : Nat → se_S} {b0 : Nat → Int64 × Int32} {t : Nat} {S : Nat → se_S} {b : Nat → Int64 × Int32} (h : st_lt R S0 b0 t S b) {w : se_S} {v : Int64 × Int32} (hn : R t (S0 t) (b0 t) w v) : st_lt R S0 b0 (t + 1) (va_up S t w) (va_up b t v) := by
  refine ⟨fun s hs => ?_, fun s hs => ?_⟩
  · show R s (S0 s) (b0 s) (if s = t then w else S s) (if s = t then v else b s)
    by_cases e : s = t
    · rw [if_pos e, if_pos e, e]
      exact hn
    · rw [if_neg e, if_neg e]
      exact h.1 s (by omega)
  · show (if s = t then w else S s) = _ ∧ (if s = t then v else b s) = _
    rw [if_neg (by omega), if_neg (by omega)]
    exact h.2 s (by omega)
def er_s : st_R := fun s a b a' b' => (a' = a ∧ b' = b) ∨ (¬ a.1 = 0 ∧ ∃ x : Int32, b' = (bl_clr (b.2 ||| x) b.1 16, b.2 ||| x) ∧ a' = se_rk (nI s) a (bl_clr (b.2 ||| x) b.1 16) (b.2 ||| x))
def ro_s : st_R := fun s a b a' b' => (a' = a ∧ b' = b) ∨ (¬ a.1 = 0 ∧ ∃ (p : Nat) (x : Int32), p < 16 ∧ bl_isE b.2 (nI p) = 0 ∧ b' = (bl_put b.1 (nI p) x, b.2) ∧ a' = se_rk (nI s) a (bl_put b.1 (nI p) x) b.2)
set_option maxHeartbeats 4000000 in
set_option maxRecDepth 100000 in
theorem l_scr {X : mi_X} (hX : mi_X23 X) (hX1 : mi_X1 X) (hX4 : mi_X4 X) {h : mi_H} {B : Nat} {u : ph_U} {S0 : Nat → se_S} {b0 : Nat → Int64 × Int32} {T : Nat → tr_S} {dr : Nat × UInt64 × Int32 × Int32 × Int32} {fi le : Nat → Nat → Int32} {a1 a2 a3 a4 mm : Nat} (hmm : mm < 1000) (hm : (nI a4 - nI a3) / 90 = nI mm) {Q : Option Value → mi_H → Prop} (hQ : ∀ (c : Int32) (S : Nat → se_S) (b : Nat → Int64 × Int32) (cp : Int64 × Int32) (mk : mk_S) (h1 : mi_H), ph_X B (u, S, b, T, dr, cp, mk) fi le h h1 → (∀ s, s < 240 → er_s s (S0 s) (b0 s) (S s) (b s)) → Q (some (.int c)) h1) : ∀ (m t : Nat), t + m = 240 → ∀ (S : Nat → se_S) (b : Nat → Int64 × Int32) (cp : Int64 × Int32) (mk : mk_S) (h1 : mi_H) (c : Int32), ph_X B (u, S, b, T, dr, cp, mk) fi le h h1 → st_lt er_s S0 b0 t S b → mi_W pP X kX8_scratch 6 0 0 72 [(6, .int (nI t)), (5, .int c), (0, .ref B), (1, .int (nI a1)), (2, .int (nI a2)), (3, .int (nI a3)), (4, .int (nI a4))] [] h1 Q := by
  intro m
  induction m with
  | zero =>
    intro t ht S b cp mk h1 c hx hst
    obtain rfl : t = 240 := by omega
    refine mi_blk okX8_scratch 2 (pc' := 77) (lv' := [(6, .int (nI 240)), (5, .int c), (0, .ref B), (1, .int (nI a1)), (2, .int (nI a2)), (3, .int (nI a3)), (4, .int (nI a4))]) (st' := [.int 240, .int (nI 240)]) rfl ?_
    refine mi_ic_ge okX8_scratch rfl rfl (fun c_77 => ?_) (fun c_77 => absurd (by decide) c_77)
    refine mi_blk okX8_scratch 1 (pc' := 174) (lv' := [(6, .int (nI 240)), (5, .int c), (0, .ref B), (1, .int (nI a1)), (2, .int (nI a2)), (3, .int (nI a3)), (4, .int (nI a4))]) (st' := [.int c]) rfl ?_
    exact mi_ret_i okX8_scratch rfl rfl rfl (hQ c S b cp mk h1 hx hst.1)
  | succ m ih =>
    intro t ht S b cp mk h1 c hx hst
    refine mi_blk okX8_scratch 2 (pc' := 77) (lv' := [(6, .int (nI t)), (5, .int c), (0, .ref B), (1, .int (nI a1)), (2, .int (nI a2)), (3, .int (nI a3)), (4, .int (nI a4))]) (st' := [.int 240, .int (nI t)]) rfl ?_
    refine mi_ic_ge okX8_scratch rfl rfl (fun c_77 => absurd c_77 (nI_ge (a := t) (b := 240) (by omega) (by decide))) (fun c_77 => ?_)
    refine mi_blk okX8_scratch 1 (pc' := 82) (lv' := [(6, .int (nI t)), (5, .int c), (0, .ref B), (1, .int (nI a1)), (2, .int (nI a2)), (3, .int (nI a3)), (4, .int (nI a4))]) (st' := [.int (nI t)]) rfl ?_
    refine mi_callS okX8_scratch (mc := 0) (ms := 0) (mc' := 0) (ms' := 0) (As := [.int (nI t)]) (st := []) rfl cs_RX8_160 rfl (by decide) (Nat.le_of_ble_eq_true rfl) (c_turnOf hX) (fun r h1 q => ?_)
    obtain ⟨rfl, e9⟩ := q; have e9 := e9.symm; subst e9
    change mi_W pP X kX8_scratch 6 0 0 85 [(6, .int (nI t)), (5, .int c), (0, .ref B), (1, .int (nI a1)), (2, .int (nI a2)), (3, .int (nI a3)), (4, .int (nI a4))] [.int (sp_turn (nI t))] h1 _
    refine mi_blk okX8_scratch 2 (pc' := 89) (lv' := [(7, .int (sp_turn (nI t))), (6, .int (nI t)), (5, .int c), (0, .ref B), (1, .int (nI a1)), (2, .int (nI a2)), (3, .int (nI a3)), (4, .int (nI a4))]) (st' := [.int (nI t)]) rfl ?_
    refine mi_callS okX8_scratch (mc := 0) (ms := 0) (mc' := 0) (ms' := 0) (As := [.int (nI t)]) (st := []) rfl cs_RX8_165 rfl (by decide) (Nat.le_of_ble_eq_true rfl) (c_angleOf hX (k := t) (by omega)) (fun r h1 q => ?_)
    obtain ⟨rfl, e9⟩ := q; have e9 := e9.symm; subst e9
    change mi_W pP X kX8_scratch 6 0 0 92 [(7, .int (sp_turn (nI t))), (6, .int (nI t)), (5, .int c), (0, .ref B), (1, .int (nI a1)), (2, .int (nI a2)), (3, .int (nI a3)), (4, .int (nI a4))] [.double (sp_ang (nI t))] h1 _
    refine mi_blk okX8_scratch 2 (pc' := 95) (lv' := [(8, .double (sp_ang (nI t))), (7, .int (sp_turn (nI t))), (6, .int (nI t)), (5, .int c), (0, .ref B), (1, .int (nI a1)), (2, .int (nI a2)), (3, .int (nI a3)), (4, .int (nI a4))]) (st' := [.ref B]) rfl ?_
    refine mi_getf okX8_scratch rfl fg_RX8_11 (show 6 ≤ _ by have := hx.1.z; omega) (show _ < h1.1 by have := hx.1.z; omega) hx.1.ph (v := .ref (B + 1)) rfl ?_
    refine mi_blk okX8_scratch 1 (pc' := 100) (lv' := [(8, .double (sp_ang (nI t))), (7, .int (sp_turn (nI t))), (6, .int (nI t)), (5, .int c), (0, .ref B), (1, .int (nI a1)), (2, .int (nI a2)), (3, .int (nI a3)), (4, .int (nI a4))]) (st' := [.int (nI t), .ref (B + 1)]) rfl ?_
    refine ph_aaS okX8_scratch (s := t) rfl hx.1 (by omega) ?_
    refine mi_getf okX8_scratch rfl fg_RX8_169 (show 6 ≤ _ by have := hx.1.z; omega) (show _ < h1.1 by have := hx.1.z; omega) (hx.1.se t (by omega)) (v := .int ((S t).1)) rfl ?_
    refine mi_if_eq okX8_scratch rfl rfl (fun c_104 => ?_) (fun c_104 => ?_)
    · refine mi_blk okX8_scratch 2 (pc' := 72) (lv' := [(6, .int ((nI t) + 1)), (8, .double (sp_ang (nI t))), (7, .int (sp_turn (nI t))), (5, .int c), (0, .ref B), (1, .int (nI a1)), (2, .int (nI a2)), (3, .int (nI a3)), (4, .int (nI a4))]) (st' := []) rfl ?_
      rw [← nI_succ]
      refine mi_WX.locs (lv' := [(6, .int (nI (t + 1))), (5, .int c), (0, .ref B), (1, .int (nI a1)), (2, .int (nI a2)), (3, .int (nI a3)), (4, .int (nI a4))]) (by simp) ?_
      exact ih (t + 1) (by omega) S b cp mk h1 c hx (hst.skip fun _ _ _ => Or.inl ⟨rfl, rfl⟩)
    · refine mi_blk okX8_scratch 2 (pc' := 110) (lv' := [(8, .double (sp_ang (nI t))), (7, .int (sp_turn (nI t))), (6, .int (nI t)), (5, .int c), (0, .ref B), (1, .int (nI a1)), (2, .int (nI a2)), (3, .int (nI a3)), (4, .int (nI a4))]) (st' := [.int (nI a1), .int (sp_turn (nI t))]) rfl ?_
      refine mi_ic_lt okX8_scratch rfl rfl (fun c_110 => ?_) (fun c_110 => ?_)
      · refine mi_blk okX8_scratch 2 (pc' := 72) (lv' := [(6, .int ((nI t) + 1)), (8, .double (sp_ang (nI t))), (7, .int (sp_turn (nI t))), (5, .int c), (0, .ref B), (1, .int (nI a1)), (2, .int (nI a2)), (3, .int (nI a3)), (4, .int (nI a4))]) (st' := []) rfl ?_
        rw [← nI_succ]
        refine mi_WX.locs (lv' := [(6, .int (nI (t + 1))), (5, .int c), (0, .ref B), (1, .int (nI a1)), (2, .int (nI a2)), (3, .int (nI a3)), (4, .int (nI a4))]) (by simp) ?_
        exact ih (t + 1) (by omega) S b cp mk h1 c hx (hst.skip fun _ _ _ => Or.inl ⟨rfl, rfl⟩)
      · refine mi_blk okX8_scratch 2 (pc' := 116) (lv' := [(8, .double (sp_ang (nI t))), (7, .int (sp_turn (nI t))), (6, .int (nI t)), (5, .int c), (0, .ref B), (1, .int (nI a1)), (2, .int (nI a2)), (3, .int (nI a3)), (4, .int (nI a4))]) (st' := [.int (nI a2), .int (sp_turn (nI t))]) rfl ?_
        refine mi_ic_gt okX8_scratch rfl rfl (fun c_116 => ?_) (fun c_116 => ?_)
        · refine mi_blk okX8_scratch 2 (pc' := 72) (lv' := [(6, .int ((nI t) + 1)), (8, .double (sp_ang (nI t))), (7, .int (sp_turn (nI t))), (5, .int c), (0, .ref B), (1, .int (nI a1)), (2, .int (nI a2)), (3, .int (nI a3)), (4, .int (nI a4))]) (st' := []) rfl ?_
          rw [← nI_succ]
          refine mi_WX.locs (lv' := [(6, .int (nI (t + 1))), (5, .int c), (0, .ref B), (1, .int (nI a1)), (2, .int (nI a2)), (3, .int (nI a3)), (4, .int (nI a4))]) (by simp) ?_
          exact ih (t + 1) (by omega) S b cp mk h1 c hx (hst.skip fun _ _ _ => Or.inl ⟨rfl, rfl⟩)
        · refine mi_blk okX8_scratch 4 (pc' := 124) (lv' := [(8, .double (sp_ang (nI t))), (7, .int (sp_turn (nI t))), (6, .int (nI t)), (5, .int c), (0, .ref B), (1, .int (nI a1)), (2, .int (nI a2)), (3, .int (nI a3)), (4, .int (nI a4))]) (st' := [.int (Op.cmpValue (FP.dcmp (sp_ang (nI t)) (FP.i2d (nI a3))) .l)]) rfl ?_
          refine mi_if_lt okX8_scratch rfl rfl (fun c_124 => ?_) (fun c_124 => ?_)
          · refine mi_blk okX8_scratch 2 (pc' := 72) (lv' := [(6, .int ((nI t) + 1)), (8, .double (sp_ang (nI t))), (7, .int (sp_turn (nI t))), (5, .int c), (0, .ref B), (1, .int (nI a1)), (2, .int (nI a2)), (3, .int (nI a3)), (4, .int (nI a4))]) (st' := []) rfl ?_
            rw [← nI_succ]
            refine mi_WX.locs (lv' := [(6, .int (nI (t + 1))), (5, .int c), (0, .ref B), (1, .int (nI a1)), (2, .int (nI a2)), (3, .int (nI a3)), (4, .int (nI a4))]) (by simp) ?_
            exact ih (t + 1) (by omega) S b cp mk h1 c hx (hst.skip fun _ _ _ => Or.inl ⟨rfl, rfl⟩)
          · refine mi_blk okX8_scratch 4 (pc' := 133) (lv' := [(8, .double (sp_ang (nI t))), (7, .int (sp_turn (nI t))), (6, .int (nI t)), (5, .int c), (0, .ref B), (1, .int (nI a1)), (2, .int (nI a2)), (3, .int (nI a3)), (4, .int (nI a4))]) (st' := [.int (Op.cmpValue (FP.dcmp (sp_ang (nI t)) (FP.i2d (nI a4))) .g)]) rfl ?_
            refine mi_if_gt okX8_scratch rfl rfl (fun c_133 => ?_) (fun c_133 => ?_)
            · refine mi_blk okX8_scratch 2 (pc' := 72) (lv' := [(6, .int ((nI t) + 1)), (8, .double (sp_ang (nI t))), (7, .int (sp_turn (nI t))), (5, .int c), (0, .ref B), (1, .int (nI a1)), (2, .int (nI a2)), (3, .int (nI a3)), (4, .int (nI a4))]) (st' := []) rfl ?_
              rw [← nI_succ]
              refine mi_WX.locs (lv' := [(6, .int (nI (t + 1))), (5, .int c), (0, .ref B), (1, .int (nI a1)), (2, .int (nI a2)), (3, .int (nI a3)), (4, .int (nI a4))]) (by simp) ?_
              exact ih (t + 1) (by omega) S b cp mk h1 c hx (hst.skip fun _ _ _ => Or.inl ⟨rfl, rfl⟩)
            · refine mi_blk okX8_scratch 1 (pc' := 137) (lv' := [(8, .double (sp_ang (nI t))), (7, .int (sp_turn (nI t))), (6, .int (nI t)), (5, .int c), (0, .ref B), (1, .int (nI a1)), (2, .int (nI a2)), (3, .int (nI a3)), (4, .int (nI a4))]) (st' := [.ref B]) rfl ?_
              refine mi_getf okX8_scratch rfl fg_RX8_11 (show 6 ≤ _ by have := hx.1.z; omega) (show _ < h1.1 by have := hx.1.z; omega) hx.1.ph (v := .ref (B + 1)) rfl ?_
              refine mi_blk okX8_scratch 1 (pc' := 142) (lv' := [(8, .double (sp_ang (nI t))), (7, .int (sp_turn (nI t))), (6, .int (nI t)), (5, .int c), (0, .ref B), (1, .int (nI a1)), (2, .int (nI a2)), (3, .int (nI a3)), (4, .int (nI a4))]) (st' := [.int (nI t), .ref (B + 1)]) rfl ?_
              refine ph_aaS okX8_scratch (s := t) rfl hx.1 (by omega) ?_
              refine mi_blk okX8_scratch 4 (pc' := 148) (lv' := [(8, .double (sp_ang (nI t))), (7, .int (sp_turn (nI t))), (6, .int (nI t)), (5, .int c), (0, .ref B), (1, .int (nI a1)), (2, .int (nI a2)), (3, .int (nI a3)), (4, .int (nI a4))]) (st' := [.int 4, .int ((sp_turn (nI t)) + (nI a3)), .ref (B + 30 + 2 * t)]) rfl ?_
              refine mi_irem okX8_scratch rfl (by decide) ?_
              refine mi_blk okX8_scratch 4 (pc' := 155) (lv' := [(8, .double (sp_ang (nI t))), (7, .int (sp_turn (nI t))), (6, .int (nI t)), (5, .int c), (0, .ref B), (1, .int (nI a1)), (2, .int (nI a2)), (3, .int (nI a3)), (4, .int (nI a4))]) (st' := [.int 90, .int ((nI a4) - (nI a3)), .int (((sp_turn (nI t)) + (nI a3)) - ((sp_turn (nI t)) + (nI a3)) / 4 * 4), .ref (B + 30 + 2 * t)]) rfl ?_
              refine mi_idiv okX8_scratch rfl (by decide) ?_
              rw [hm]
              refine mi_blk okX8_scratch 1 (pc' := 157) (lv' := [(8, .double (sp_ang (nI t))), (7, .int (sp_turn (nI t))), (6, .int (nI t)), (5, .int c), (0, .ref B), (1, .int (nI a1)), (2, .int (nI a2)), (3, .int (nI a3)), (4, .int (nI a4))]) (st' := [.ref B, .int (nI mm), .int (((sp_turn (nI t)) + (nI a3)) - ((sp_turn (nI t)) + (nI a3)) / 4 * 4), .ref (B + 30 + 2 * t)]) rfl ?_
              refine mi_getf okX8_scratch rfl fg_RX8_38 (show 6 ≤ _ by have := hx.1.z; omega) (show _ < h1.1 by have := hx.1.z; omega) hx.1.ph (v := .ref (B + 27)) rfl ?_
              refine mi_callV okX8_scratch (mc := 0) (ms := 0) (mc' := 0) (ms' := 0) (b := (B + 30 + 2 * t)) (As := [.int (((sp_turn (nI t)) + (nI a3)) - ((sp_turn (nI t)) + (nI a3)) / 4 * 4), .int (nI mm), .ref (B + 27)]) (st := []) rfl cv_RX8_172 rfl (by decide) (show 6 ≤ _ by have := hx.1.z; omega) (show _ < h1.1 by have := hx.1.z; omega) (hx.1.se t (by omega)) rfl (Nat.le_of_ble_eq_true rfl) (c_eraseColumn (h := h1) hX1 hX4 (c := ((sp_turn (nI t) + nI a3) - (sp_turn (nI t) + nI a3) / 4 * 4)) (show 6 ≤ _ by have := hx.1.z; omega) (show _ < h1.1 by have := hx.1.z; omega) (hx.1.se t (by omega)) (show 6 ≤ _ by have := hx.1.z; omega) (show _ < h1.1 by have := hx.1.z; omega) (hx.1.bl t (by omega)) (show 6 ≤ _ by have := hx.1.z; omega) (show _ < h1.1 by have := hx.1.z; omega) hx.1.be (show 6 ≤ _ by have := hx.1.z; omega) (show _ < h1.1 by have := hx.1.z; omega) hx.1.cp (show 6 ≤ _ by have := hx.1.z; omega) (show _ < h1.1 by have := hx.1.z; omega) hx.1.mk (by omega) (by omega) (by omega) (by omega) (by omega) (by omega) (by omega) (by omega) (by omega) (by omega) hmm) (fun r h1 q => ?_)
              obtain ⟨rfl, e9⟩ := q; have e9 := e9.symm; subst e9
              change mi_W pP X kX8_scratch 6 0 0 163 [(8, .double (sp_ang (nI t))), (7, .int (sp_turn (nI t))), (6, .int (nI t)), (5, .int c), (0, .ref B), (1, .int (nI a1)), (2, .int (nI a2)), (3, .int (nI a3)), (4, .int (nI a4))] [] (mi_set (mi_set (mi_set (mi_set h1 (B + 31 + 2 * t) (bl_c (bl_clr ((b t).2 ||| (ec_set ((sp_turn (nI t) + nI a3) - (sp_turn (nI t) + nI a3) / 4 * 4) (mm + 1))) (b t).1 16) ((b t).2 ||| (ec_set ((sp_turn (nI t) + nI a3) - (sp_turn (nI t) + nI a3) / 4 * 4) (mm + 1))))) (B + 28) (bl_c (bl_mend (bl_clr ((b t).2 ||| (ec_set ((sp_turn (nI t) + nI a3) - (sp_turn (nI t) + nI a3) / 4 * 4) (mm + 1))) (b t).1 16) ((b t).2 ||| (ec_set ((sp_turn (nI t) + nI a3) - (sp_turn (nI t) + nI a3) / 4 * 4) (mm + 1)))).1 (bl_mend (bl_clr ((b t).2 ||| (ec_set ((sp_turn (nI t) + nI a3) - (sp_turn (nI t) + nI a3) / 4 * 4) (mm + 1))) (b t).1 16) ((b t).2 ||| (ec_set ((sp_turn (nI t) + nI a3) - (sp_turn (nI t) + nI a3) / 4 * 4) (mm + 1)))).2)) (B + 29) (mk_c (mk_all (bl_clr ((b t).2 ||| (ec_set ((sp_turn (nI t) + nI a3) - (sp_turn (nI t) + nI a3) / 4 * 4) (mm + 1))) (b t).1 16) 16).1)) (B + 30 + 2 * t) (se_c (nI t) (B + 31 + 2 * t) (se_rk (nI t) (S t) (bl_clr ((b t).2 ||| (ec_set ((sp_turn (nI t) + nI a3) - (sp_turn (nI t) + nI a3) / 4 * 4) (mm + 1))) (b t).1 16) ((b t).2 ||| (ec_set ((sp_turn (nI t) + nI a3) - (sp_turn (nI t) + nI a3) / 4 * 4) (mm + 1)))))) _
              refine mi_blk okX8_scratch 3 (pc' := 72) (lv' := [(6, .int ((nI t) + 1)), (5, .int (c + 1)), (8, .double (sp_ang (nI t))), (7, .int (sp_turn (nI t))), (0, .ref B), (1, .int (nI a1)), (2, .int (nI a2)), (3, .int (nI a3)), (4, .int (nI a4))]) (st' := []) rfl ?_
              rw [← nI_succ]
              refine mi_WX.locs (lv' := [(6, .int (nI (t + 1))), (5, .int (c + 1)), (0, .ref B), (1, .int (nI a1)), (2, .int (nI a2)), (3, .int (nI a3)), (4, .int (nI a4))]) (by simp) ?_
              refine ih (t + 1) (by omega) _ _ _ _ _ _ ((((hx.set_bl (s := t) (by omega) ((bl_clr ((b t).2 ||| (ec_set ((sp_turn (nI t) + nI a3) - (sp_turn (nI t) + nI a3) / 4 * 4) (mm + 1))) (b t).1 16), ((b t).2 ||| (ec_set ((sp_turn (nI t) + nI a3) - (sp_turn (nI t) + nI a3) / 4 * 4) (mm + 1))))).set_cp _ _).set_mk _).set_se (s := t) (by omega) (se_rk (nI t) (S t) (bl_clr ((b t).2 ||| (ec_set ((sp_turn (nI t) + nI a3) - (sp_turn (nI t) + nI a3) / 4 * 4) (mm + 1))) (b t).1 16) ((b t).2 ||| (ec_set ((sp_turn (nI t) + nI a3) - (sp_turn (nI t) + nI a3) / 4 * 4) (mm + 1))))) (hst.step (Or.inr ⟨by rw [← (hst.2 t (Nat.le_refl t)).1]; exact c_104, (ec_set ((sp_turn (nI t) + nI a3) - (sp_turn (nI t) + nI a3) / 4 * 4) (mm + 1)), ?_, ?_⟩))
              · rw [(hst.2 t (Nat.le_refl t)).2]
              · rw [(hst.2 t (Nat.le_refl t)).1, (hst.2 t (Nat.le_refl t)).2]
set_option maxHeartbeats 4000000 in
set_option maxRecDepth 100000 in
theorem c_scratch {X : mi_X} (hX : mi_X23 X) (hX1 : mi_X1 X) (hX4 : mi_X4 X) {h : mi_H} {B : Nat} {q : ph_T} {fi le : Nat → Nat → Int32} (hw : ph_W B q fi le h) {a1 a2 a3 a4 mm : Nat} (hmm : mm < 1000) (hm : (nI a4 - nI a3) / 90 = nI mm) (h1 : a1 < 30) (h2 : a1 ≤ a2) (h3 : a2 < 30) (h4 : a3 ≤ 359) (h5 : a3 ≤ a4) (h6 : a4 ≤ 359) : mi_S pP X kX8_scratch 6 [.ref B, .int (nI a1), .int (nI a2), .int (nI a3), .int (nI a4)] h 0 0 (fun r h1 => ∃ c : Int32, r = some (.int c) ∧ ∃ (S : Nat → se_S) (b : Nat → Int64 × Int32) (cp : Int64 × Int32) (mk : mk_S), ph_X B (q.1, S, b, q.2.2.2.1, q.2.2.2.2.1, cp, mk) fi le h h1 ∧ ∀ s, s < 240 → er_s s (q.2.1 s) (q.2.2.1 s) (S s) (b s)) := by
  refine enX8_scratch (Nat.le_of_ble_eq_true rfl) ?_
  refine mi_blk okX8_scratch 1 (pc' := 1) (lv' := [(0, .ref B), (1, .int (nI a1)), (2, .int (nI a2)), (3, .int (nI a3)), (4, .int (nI a4))]) (st' := [.int (nI a1)]) rfl ?_
  refine mi_if_lt okX8_scratch rfl rfl (fun c_1 => absurd c_1 (nI_pos (by omega))) (fun c_1 => ?_)
  refine mi_blk okX8_scratch 2 (pc' := 7) (lv' := [(0, .ref B), (1, .int (nI a1)), (2, .int (nI a2)), (3, .int (nI a3)), (4, .int (nI a4))]) (st' := [.int 30, .int (nI a1)]) rfl ?_
  refine mi_ic_ge okX8_scratch rfl rfl (fun c_7 => absurd c_7 (nI_ge (a := a1) (b := 30) (by omega) (by decide))) (fun c_7 => ?_)
  refine mi_blk okX8_scratch 2 (pc' := 12) (lv' := [(0, .ref B), (1, .int (nI a1)), (2, .int (nI a2)), (3, .int (nI a3)), (4, .int (nI a4))]) (st' := [.int (nI a1), .int (nI a2)]) rfl ?_
  refine mi_ic_lt okX8_scratch rfl rfl (fun c_12 => absurd c_12 (nI_nlt (by omega) (by omega))) (fun c_12 => ?_)
  refine mi_blk okX8_scratch 2 (pc' := 18) (lv' := [(0, .ref B), (1, .int (nI a1)), (2, .int (nI a2)), (3, .int (nI a3)), (4, .int (nI a4))]) (st' := [.int 30, .int (nI a2)]) rfl ?_
  refine mi_ic_lt okX8_scratch rfl rfl (fun c_18 => ?_) (fun c_18 => absurd (nI_lt (a := a2) (b := 30) (by omega) (by decide)) c_18)
  refine mi_blk okX8_scratch 1 (pc' := 32) (lv' := [(0, .ref B), (1, .int (nI a1)), (2, .int (nI a2)), (3, .int (nI a3)), (4, .int (nI a4))]) (st' := [.int (nI a3)]) rfl ?_
  refine mi_if_lt okX8_scratch rfl rfl (fun c_32 => absurd c_32 (nI_pos (by omega))) (fun c_32 => ?_)
  refine mi_blk okX8_scratch 2 (pc' := 39) (lv' := [(0, .ref B), (1, .int (nI a1)), (2, .int (nI a2)), (3, .int (nI a3)), (4, .int (nI a4))]) (st' := [.int 359, .int (nI a3)]) rfl ?_
  refine mi_ic_gt okX8_scratch rfl rfl (fun c_39 => absurd c_39 (nI_nlt (a := 359) (by omega) (by omega))) (fun c_39 => ?_)
  refine mi_blk okX8_scratch 2 (pc' := 45) (lv' := [(0, .ref B), (1, .int (nI a1)), (2, .int (nI a2)), (3, .int (nI a3)), (4, .int (nI a4))]) (st' := [.int (nI a3), .int (nI a4)]) rfl ?_
  refine mi_ic_lt okX8_scratch rfl rfl (fun c_45 => absurd c_45 (nI_nlt (by omega) (by omega))) (fun c_45 => ?_)
  refine mi_blk okX8_scratch 2 (pc' := 53) (lv' := [(0, .ref B), (1, .int (nI a1)), (2, .int (nI a2)), (3, .int (nI a3)), (4, .int (nI a4))]) (st' := [.int 359, .int (nI a4)]) rfl ?_
  refine mi_ic_le okX8_scratch rfl rfl (fun c_53 => ?_) (fun c_53 => absurd (nI_le (a := a4) (b := 359) (by omega) (by decide)) c_53)
  refine mi_blk okX8_scratch 4 (pc' := 72) (lv' := [(6, .int 0), (5, .int 0), (0, .ref B), (1, .int (nI a1)), (2, .int (nI a2)), (3, .int (nI a3)), (4, .int (nI a4))]) (st' := []) rfl ?_
  change mi_W pP X kX8_scratch 6 0 0 72 [(6, .int (nI 0)), (5, .int 0), (0, .ref B), (1, .int (nI a1)), (2, .int (nI a2)), (3, .int (nI a3)), (4, .int (nI a4))] [] h _
  exact l_scr (u := q.1) (S0 := q.2.1) (b0 := q.2.2.1) (T := q.2.2.2.1) (dr := q.2.2.2.2.1) hX hX1 hX4 hmm hm (fun c S b cp mk h1 hx hs => ⟨c, rfl, S, b, cp, mk, hx, hs⟩) 240 0 rfl q.2.1 q.2.2.1 q.2.2.2.2.2.1 q.2.2.2.2.2.2 h 0 (ph_X.rf hw) ⟨fun s hs => absurd hs (by omega), fun s hs => ⟨rfl, rfl⟩⟩
theorem hr5 (r : Nat) (hr : r ≤ 999) : ¬ (nI r - nI r / 5 * 5) + 2 = 0 := by
  rw [show nI r - nI r / 5 * 5 = nI (r % 5) from pk_rem (a := r) (d := 5) (by omega) (by decide) (by decide)]
  exact (by decide : ∀ j, j < 5 → ¬ nI j + 2 = 0) _ (Nat.mod_lt _ (by decide))
set_option maxHeartbeats 4000000 in
set_option maxRecDepth 100000 in
theorem l_rot {X : mi_X} (hX1 : mi_X1 X) (hX4 : mi_X4 X) {h : mi_H} {B : Nat} {u : ph_U} {S0 : Nat → se_S} {b0 : Nat → Int64 × Int32} {T : Nat → tr_S} {dr : Nat × UInt64 × Int32 × Int32 × Int32} {fi le : Nat → Nat → Int32} {r : Nat} (hr : r ≤ 999) {Q : Option Value → mi_H → Prop} (hQ : ∀ (c : Nat) (S : Nat → se_S) (b : Nat → Int64 × Int32) (cp : Int64 × Int32) (mk : mk_S) (h1 : mi_H), c ≤ 240 → ph_X B (u, S, b, T, dr, cp, mk) fi le h h1 → (∀ s, s < 240 → ro_s s (S0 s) (b0 s) (S s) (b s)) → (c = 0 → S = S0 ∧ b = b0) → Q (some (.int (nI c))) h1) : ∀ (m t : Nat), t + m = 240 → ∀ (S : Nat → se_S) (b : Nat → Int64 × Int32) (cp : Int64 × Int32) (mk : mk_S) (h1 : mi_H) (c : Nat), c ≤ t → ph_X B (u, S, b, T, dr, cp, mk) fi le h h1 → st_lt ro_s S0 b0 t S b → (c = 0 → S = S0 ∧ b = b0) → mi_W pP X kX8_rot 6 0 0 25 [(3, .int (nI t)), (2, .int (nI c)), (0, .ref B), (1, .int (nI r))] [] h1 Q := by
  intro m
  induction m with
  | zero =>
    intro t ht S b cp mk h1 c hcl hx hst hc0
    obtain rfl : t = 240 := by omega
    refine mi_blk okX8_rot 2 (pc' := 29) (lv' := [(3, .int (nI 240)), (2, .int (nI c)), (0, .ref B), (1, .int (nI r))]) (st' := [.int 240, .int (nI 240)]) rfl ?_
    refine mi_ic_ge okX8_rot rfl rfl (fun c_29 => ?_) (fun c_29 => absurd (by decide) c_29)
    refine mi_blk okX8_rot 1 (pc' := 107) (lv' := [(3, .int (nI 240)), (2, .int (nI c)), (0, .ref B), (1, .int (nI r))]) (st' := [.int (nI c)]) rfl ?_
    exact mi_ret_i okX8_rot rfl rfl rfl (hQ c S b cp mk h1 hcl hx hst.1 hc0)
  | succ m ih =>
    intro t ht S b cp mk h1 c hcl hx hst hc0
    refine mi_blk okX8_rot 2 (pc' := 29) (lv' := [(3, .int (nI t)), (2, .int (nI c)), (0, .ref B), (1, .int (nI r))]) (st' := [.int 240, .int (nI t)]) rfl ?_
    refine mi_ic_ge okX8_rot rfl rfl (fun c_29 => absurd c_29 (nI_ge (a := t) (b := 240) (by omega) (by decide))) (fun c_29 => ?_)
    refine mi_blk okX8_rot 1 (pc' := 33) (lv' := [(3, .int (nI t)), (2, .int (nI c)), (0, .ref B), (1, .int (nI r))]) (st' := [.ref B]) rfl ?_
    refine mi_getf okX8_rot rfl fg_RX8_11 (show 6 ≤ _ by have := hx.1.z; omega) (show _ < h1.1 by have := hx.1.z; omega) hx.1.ph (v := .ref (B + 1)) rfl ?_
    refine mi_blk okX8_rot 1 (pc' := 37) (lv' := [(3, .int (nI t)), (2, .int (nI c)), (0, .ref B), (1, .int (nI r))]) (st' := [.int (nI t), .ref (B + 1)]) rfl ?_
    refine ph_aaS okX8_rot (s := t) rfl hx.1 (by omega) ?_
    refine mi_getf okX8_rot rfl fg_RX8_169 (show 6 ≤ _ by have := hx.1.z; omega) (show _ < h1.1 by have := hx.1.z; omega) (hx.1.se t (by omega)) (v := .int ((S t).1)) rfl ?_
    refine mi_if_eq okX8_rot rfl rfl (fun c_41 => ?_) (fun c_41 => ?_)
    · refine mi_blk okX8_rot 3 (pc' := 63) (lv' := [(4, .int 0), (3, .int (nI t)), (2, .int (nI c)), (0, .ref B), (1, .int (nI r))]) (st' := [.int 0]) rfl ?_
      refine mi_if_eq okX8_rot rfl rfl (fun c_63 => ?_) (fun c_63 => absurd (by decide) c_63)
      refine mi_blk okX8_rot 2 (pc' := 25) (lv' := [(3, .int ((nI t) + 1)), (4, .int 0), (2, .int (nI c)), (0, .ref B), (1, .int (nI r))]) (st' := []) rfl ?_
      rw [← nI_succ]
      refine mi_WX.locs (lv' := [(3, .int (nI (t + 1))), (2, .int (nI c)), (0, .ref B), (1, .int (nI r))]) (by simp) ?_
      exact ih (t + 1) (by omega) S b cp mk h1 c (by omega) hx (hst.skip fun _ _ _ => Or.inl ⟨rfl, rfl⟩) hc0
    · refine mi_blk okX8_rot 3 (pc' := 47) (lv' := [(3, .int (nI t)), (2, .int (nI c)), (0, .ref B), (1, .int (nI r))]) (st' := [.int 5, .int (nI r), .int (nI t)]) rfl ?_
      refine mi_irem okX8_rot rfl (by decide) ?_
      refine mi_blk okX8_rot 2 (pc' := 50) (lv' := [(3, .int (nI t)), (2, .int (nI c)), (0, .ref B), (1, .int (nI r))]) (st' := [.int (((nI r) - (nI r) / 5 * 5) + 2), .int (nI t)]) rfl ?_
      refine mi_irem okX8_rot rfl (hr5 r hr) ?_
      refine mi_if_ne okX8_rot rfl rfl (fun c_51 => ?_) (fun c_51 => ?_)
      · refine mi_blk okX8_rot 3 (pc' := 63) (lv' := [(4, .int 0), (3, .int (nI t)), (2, .int (nI c)), (0, .ref B), (1, .int (nI r))]) (st' := [.int 0]) rfl ?_
        refine mi_if_eq okX8_rot rfl rfl (fun c_63 => ?_) (fun c_63 => absurd (by decide) c_63)
        refine mi_blk okX8_rot 2 (pc' := 25) (lv' := [(3, .int ((nI t) + 1)), (4, .int 0), (2, .int (nI c)), (0, .ref B), (1, .int (nI r))]) (st' := []) rfl ?_
        rw [← nI_succ]
        refine mi_WX.locs (lv' := [(3, .int (nI (t + 1))), (2, .int (nI c)), (0, .ref B), (1, .int (nI r))]) (by simp) ?_
        exact ih (t + 1) (by omega) S b cp mk h1 c (by omega) hx (hst.skip fun _ _ _ => Or.inl ⟨rfl, rfl⟩) hc0
      · refine mi_blk okX8_rot 4 (pc' := 63) (lv' := [(4, .int 1), (3, .int (nI t)), (2, .int (nI c)), (0, .ref B), (1, .int (nI r))]) (st' := [.int 1]) rfl ?_
        refine mi_if_eq okX8_rot rfl rfl (fun c_63 => absurd c_63 (by decide)) (fun c_63 => ?_)
        refine mi_blk okX8_rot 1 (pc' := 67) (lv' := [(4, .int 1), (3, .int (nI t)), (2, .int (nI c)), (0, .ref B), (1, .int (nI r))]) (st' := [.ref B]) rfl ?_
        refine mi_getf okX8_rot rfl fg_RX8_11 (show 6 ≤ _ by have := hx.1.z; omega) (show _ < h1.1 by have := hx.1.z; omega) hx.1.ph (v := .ref (B + 1)) rfl ?_
        refine mi_blk okX8_rot 1 (pc' := 71) (lv' := [(4, .int 1), (3, .int (nI t)), (2, .int (nI c)), (0, .ref B), (1, .int (nI r))]) (st' := [.int (nI t), .ref (B + 1)]) rfl ?_
        refine ph_aaS okX8_rot (s := t) rfl hx.1 (by omega) ?_
        refine mi_blk okX8_rot 6 (pc' := 80) (lv' := [(4, .int 1), (3, .int (nI t)), (2, .int (nI c)), (0, .ref B), (1, .int (nI r))]) (st' := [.int 16, .int (((nI t) * 7) + (nI r)), .ref (B + 30 + 2 * t)]) rfl ?_
        refine mi_irem okX8_rot rfl (by decide) ?_
        rw [show ((nI t * 7) + nI r) - ((nI t * 7) + nI r) / 16 * 16 = nI ((t * 7 + r) % 16) from by rw [show nI t * 7 = nI (t * 7) from pk_mul t 7, nI_add]; exact pk_rem (a := t * 7 + r) (d := 16) (by omega) (by decide) (by decide)]
        refine mi_blk okX8_rot 1 (pc' := 82) (lv' := [(4, .int 1), (3, .int (nI t)), (2, .int (nI c)), (0, .ref B), (1, .int (nI r))]) (st' := [.int (nI r), .int (nI ((t * 7 + r) % 16)), .ref (B + 30 + 2 * t)]) rfl ?_
        refine mi_blk okX8_rot 1 (pc' := 84) (lv' := [(4, .int 1), (3, .int (nI t)), (2, .int (nI c)), (0, .ref B), (1, .int (nI r))]) (st' := [.int 15, .int (nI r), .int (nI ((t * 7 + r) % 16)), .ref (B + 30 + 2 * t)]) rfl ?_
        refine mi_irem okX8_rot rfl (by decide) ?_
        refine mi_blk okX8_rot 3 (pc' := 88) (lv' := [(4, .int 1), (3, .int (nI t)), (2, .int (nI c)), (0, .ref B), (1, .int (nI r))]) (st' := [.ref B, .int (((nI r) - (nI r) / 15 * 15) + 1), .int (nI ((t * 7 + r) % 16)), .ref (B + 30 + 2 * t)]) rfl ?_
        refine mi_getf okX8_rot rfl fg_RX8_38 (show 6 ≤ _ by have := hx.1.z; omega) (show _ < h1.1 by have := hx.1.z; omega) hx.1.ph (v := .ref (B + 27)) rfl ?_
        refine mi_callV okX8_rot (mc := 0) (ms := 0) (mc' := 0) (ms' := 0) (b := (B + 30 + 2 * t)) (As := [.int (nI ((t * 7 + r) % 16)), .int (((nI r) - (nI r) / 15 * 15) + 1), .ref (B + 27)]) (st := []) rfl cv_RX8_178 rfl (by decide) (show 6 ≤ _ by have := hx.1.z; omega) (show _ < h1.1 by have := hx.1.z; omega) (hx.1.se t (by omega)) rfl (Nat.le_of_ble_eq_true rfl) (c_makeWrong (h := h1) hX1 hX4 (t := nI ((t * 7 + r) % 16)) (y := ((nI r - nI r / 15 * 15) + 1)) (show 6 ≤ _ by have := hx.1.z; omega) (show _ < h1.1 by have := hx.1.z; omega) (hx.1.se t (by omega)) (show 6 ≤ _ by have := hx.1.z; omega) (show _ < h1.1 by have := hx.1.z; omega) (hx.1.bl t (by omega)) (show 6 ≤ _ by have := hx.1.z; omega) (show _ < h1.1 by have := hx.1.z; omega) hx.1.be (show 6 ≤ _ by have := hx.1.z; omega) (show _ < h1.1 by have := hx.1.z; omega) hx.1.cp (show 6 ≤ _ by have := hx.1.z; omega) (show _ < h1.1 by have := hx.1.z; omega) hx.1.mk (by omega) (by omega) (by omega) (by omega) (by omega) (by omega) (by omega) (by omega) (by omega) (by omega)) (fun r1 h2 q => ?_)
        rcases q with ⟨c_e, rfl, e9⟩ | ⟨c_e, rfl, e9⟩
        · subst e9
          change mi_W pP X kX8_rot 6 0 0 94 [(4, .int 1), (3, .int (nI t)), (2, .int (nI c)), (0, .ref B), (1, .int (nI r))] [.int 0] h2 _
          refine mi_if_eq okX8_rot rfl rfl (fun c_94 => ?_) (fun c_94 => absurd (by decide) c_94)
          refine mi_blk okX8_rot 2 (pc' := 25) (lv' := [(3, .int ((nI t) + 1)), (4, .int 1), (2, .int (nI c)), (0, .ref B), (1, .int (nI r))]) (st' := []) rfl ?_
          rw [← nI_succ]
          refine mi_WX.locs (lv' := [(3, .int (nI (t + 1))), (2, .int (nI c)), (0, .ref B), (1, .int (nI r))]) (by simp) ?_
          exact ih (t + 1) (by omega) S b cp mk h2 c (by omega) hx (hst.skip fun _ _ _ => Or.inl ⟨rfl, rfl⟩) hc0
        · change mi_W pP X kX8_rot 6 0 0 94 [(4, .int 1), (3, .int (nI t)), (2, .int (nI c)), (0, .ref B), (1, .int (nI r))] [.int 1] h2 _
          refine mi_if_eq okX8_rot rfl rfl (fun c_94 => absurd c_94 (by decide)) (fun c_94 => ?_)
          refine mi_blk okX8_rot 3 (pc' := 25) (lv' := [(3, .int ((nI t) + 1)), (2, .int ((nI c) + 1)), (4, .int 1), (0, .ref B), (1, .int (nI r))]) (st' := []) rfl ?_
          rw [← nI_succ, ← nI_succ]
          refine mi_WX.locs (lv' := [(3, .int (nI (t + 1))), (2, .int (nI (c + 1))), (0, .ref B), (1, .int (nI r))]) (by simp) ?_
          rw [e9]
          refine ih (t + 1) (by omega) _ _ _ _ _ (c + 1) (by omega) ((((hx.set_bl (s := t) (by omega) ((bl_put (b t).1 (nI ((t * 7 + r) % 16)) (bl_at (b t).1 (nI ((t * 7 + r) % 16)) ^^^ ((nI r - nI r / 15 * 15) + 1))), (b t).2)).set_cp _ _).set_mk _).set_se (s := t) (by omega) (se_rk (nI t) (S t) (bl_put (b t).1 (nI ((t * 7 + r) % 16)) (bl_at (b t).1 (nI ((t * 7 + r) % 16)) ^^^ ((nI r - nI r / 15 * 15) + 1))) (b t).2)) (hst.step (Or.inr ⟨by rw [← (hst.2 t (Nat.le_refl t)).1]; exact c_41, ((t * 7 + r) % 16), bl_at (b t).1 (nI ((t * 7 + r) % 16)) ^^^ ((nI r - nI r / 15 * 15) + 1), by omega, by rw [← (hst.2 t (Nat.le_refl t)).2]; exact c_e, ?_, ?_⟩)) (fun z => absurd z (by omega))
          · rw [(hst.2 t (Nat.le_refl t)).2]
          · rw [(hst.2 t (Nat.le_refl t)).1, (hst.2 t (Nat.le_refl t)).2]
set_option maxHeartbeats 4000000 in
set_option maxRecDepth 100000 in
theorem c_rot {X : mi_X} (hX1 : mi_X1 X) (hX4 : mi_X4 X) {h : mi_H} {B : Nat} {q : ph_T} {fi le : Nat → Nat → Int32} (hw : ph_W B q fi le h) {r : Nat} (hr : r ≤ 999) : mi_S pP X kX8_rot 6 [.ref B, .int (nI r)] h 0 0 (fun r9 h1 => ∃ c : Nat, c ≤ 240 ∧ r9 = some (.int (nI c)) ∧ ∃ (S : Nat → se_S) (b : Nat → Int64 × Int32) (cp : Int64 × Int32) (mk : mk_S), ph_X B (q.1, S, b, q.2.2.2.1, q.2.2.2.2.1, cp, mk) fi le h h1 ∧ (∀ s, s < 240 → ro_s s (q.2.1 s) (q.2.2.1 s) (S s) (b s)) ∧ (c = 0 → S = q.2.1 ∧ b = q.2.2.1)) := by
  refine enX8_rot (Nat.le_of_ble_eq_true rfl) ?_
  refine mi_blk okX8_rot 1 (pc' := 1) (lv' := [(0, .ref B), (1, .int (nI r))]) (st' := [.int (nI r)]) rfl ?_
  refine mi_if_lt okX8_rot rfl rfl (fun c_1 => absurd c_1 (nI_pos (by omega))) (fun c_1 => ?_)
  refine mi_blk okX8_rot 2 (pc' := 8) (lv' := [(0, .ref B), (1, .int (nI r))]) (st' := [.int 999, .int (nI r)]) rfl ?_
  refine mi_ic_le okX8_rot rfl rfl (fun c_8 => ?_) (fun c_8 => absurd (nI_le (a := r) (b := 999) hr (by decide)) c_8)
  refine mi_blk okX8_rot 4 (pc' := 25) (lv' := [(3, .int 0), (2, .int 0), (0, .ref B), (1, .int (nI r))]) (st' := []) rfl ?_
  change mi_W pP X kX8_rot 6 0 0 25 [(3, .int (nI 0)), (2, .int (nI 0)), (0, .ref B), (1, .int (nI r))] [] h _
  exact l_rot (u := q.1) (S0 := q.2.1) (b0 := q.2.2.1) (T := q.2.2.2.1) (dr := q.2.2.2.2.1) hX1 hX4 hr (fun c S b cp mk h1 hc hx hs h0 => ⟨c, hc, rfl, S, b, cp, mk, hx, hs, h0⟩) 240 0 rfl q.2.1 q.2.2.1 q.2.2.2.2.2.1 q.2.2.2.2.2.2 h 0 (Nat.le_refl 0) (ph_X.rf hw) ⟨fun s hs => absurd hs (by omega), fun s hs => ⟨rfl, rfl⟩⟩ (fun _ => ⟨rfl, rfl⟩)
