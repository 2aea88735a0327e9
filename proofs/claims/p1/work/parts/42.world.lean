-- the whole of a PitHouse: 518 cells from B on
abbrev ph_U : Type := Int32 × Int32 × Int32 × Int32 × Int32
/-- sessions, tracks, next, calibrations, open; SECTORS; their blocks; TRACKS; head, CLOCK, reads, tray, refusals; copy; marks -/
abbrev ph_T : Type := ph_U × (Nat → se_S) × (Nat → Int64 × Int32) × (Nat → tr_S) × (Nat × UInt64 × Int32 × Int32 × Int32) × (Int64 × Int32) × mk_S
abbrev ph_c (B : Nat) (u : ph_U) : mi_C := .inr (0, [.ref (B + 1), .ref (B + 2), .ref (B + 3), .ref (B + 26), .ref (B + 27), .int u.1, .int u.2.1, .int u.2.2.1, .int u.2.2.2.1, .int u.2.2.2.2])
abbrev ph_r (t n : Nat) (f : Nat → Option Nat) : mi_C := .inl (t, n, .inr (.inr (.inr (.inr f))))
def ph_W (B : Nat) (q : ph_T) (fi le : Nat → Nat → Int32) (h : mi_H) : Prop :=
  (6 ≤ B ∧ B + 518 ≤ h.1) ∧ h.2 B = ph_c B q.1 ∧
  (∃ f, h.2 (B + 1) = ph_r 4 240 f ∧ ∀ i, i < 240 → f i = some (B + 30 + 2 * i)) ∧
  (∃ f, h.2 (B + 2) = ph_r 5 8 f ∧ ∀ i, i < 8 → f i = some (B + 510 + i)) ∧
  h.2 (B + 3) = .inr (4, [.ref (B + 4), .ref (B + 15)]) ∧
  (∃ f, h.2 (B + 4) = ph_r 3 10 f ∧ ∀ i, i < 10 → f i = some (B + 5 + i)) ∧
  (∃ f, h.2 (B + 15) = ph_r 3 10 f ∧ ∀ i, i < 10 → f i = some (B + 16 + i)) ∧
  (∀ i, i < 10 → h.2 (B + 5 + i) = .inl (0, 3, .inl (fi i))) ∧ (∀ i, i < 10 → h.2 (B + 16 + i) = .inl (0, 3, .inl (le i))) ∧
  h.2 (B + 26) = dv_c q.2.2.2.2.1.1 q.2.2.2.2.1.2.1 q.2.2.2.2.1.2.2.1 q.2.2.2.2.1.2.2.2.1 q.2.2.2.2.1.2.2.2.2 ∧
  h.2 (B + 27) = be_c (B + 28) (B + 29) ∧ h.2 (B + 28) = bl_c q.2.2.2.2.2.1.1 q.2.2.2.2.2.1.2 ∧ h.2 (B + 29) = mk_c q.2.2.2.2.2.2 ∧
  (∀ s, s < 240 → h.2 (B + 30 + 2 * s) = se_c (nI s) (B + 31 + 2 * s) (q.2.1 s)) ∧ (∀ s, s < 240 → h.2 (B + 31 + 2 * s) = bl_c (q.2.2.1 s).1 (q.2.2.1 s).2) ∧
  ∀ t, t < 8 → h.2 (B + 510 + t) = tr_c (q.2.2.2.1 t)
section PHW
variable {B : Nat} {q : ph_T} {fi le : Nat → Nat → Int32} {h : mi_H}
abbrev ph_W.z (hw : ph_W B q fi le h) := hw.1
abbrev ph_W.ph (hw : ph_W B q fi le h) := hw.2.1
abbrev ph_W.sec (hw : ph_W B q fi le h) := hw.2.2.1
abbrev ph_W.trk (hw : ph_W B q fi le h) := hw.2.2.2.1
abbrev ph_W.fil (hw : ph_W B q fi le h) := hw.2.2.2.2.1
abbrev ph_W.fir (hw : ph_W B q fi le h) := hw.2.2.2.2.2.1
abbrev ph_W.len (hw : ph_W B q fi le h) := hw.2.2.2.2.2.2.1
abbrev ph_W.fis (hw : ph_W B q fi le h) := hw.2.2.2.2.2.2.2.1
abbrev ph_W.les (hw : ph_W B q fi le h) := hw.2.2.2.2.2.2.2.2.1
abbrev ph_W.dr (hw : ph_W B q fi le h) := hw.2.2.2.2.2.2.2.2.2.1
abbrev ph_W.be (hw : ph_W B q fi le h) := hw.2.2.2.2.2.2.2.2.2.2.1
abbrev ph_W.cp (hw : ph_W B q fi le h) := hw.2.2.2.2.2.2.2.2.2.2.2.1
abbrev ph_W.mk (hw : ph_W B q fi le h) := hw.2.2.2.2.2.2.2.2.2.2.2.2.1
abbrev ph_W.se (hw : ph_W B q fi le h) := hw.2.2.2.2.2.2.2.2.2.2.2.2.2.1
abbrev ph_W.bl (hw : ph_W B q fi le h) := hw.2.2.2.2.2.2.2.2.2.2.2.2.2.2.1
abbrev ph_W.tr (hw : ph_W B q fi le h) := hw.2.2.2.2.2.2.2.2.2.2.2.2.2.2.2
theorem ph_W.set_ph (hw : ph_W B q fi le h) (u : ph_U) : ph_W B (u, q.2) fi le (mi_set h B (ph_c B u)) := by
  obtain ⟨hz, hp, hs, ht, hf, hff, hfl, hfi, hle, hd, hb, hc, hm, hS, hB, hT⟩ := hw
  exact ⟨hz, mi_set_self, (let ⟨f, f1, f2⟩ := hs; ⟨f, (mi_set_ne (by omega)).trans f1, f2⟩), (let ⟨f, f1, f2⟩ := ht; ⟨f, (mi_set_ne (by omega)).trans f1, f2⟩), ((mi_set_ne (by omega)).trans hf), (let ⟨f, f1, f2⟩ := hff; ⟨f, (mi_set_ne (by omega)).trans f1, f2⟩), (let ⟨f, f1, f2⟩ := hfl; ⟨f, (mi_set_ne (by omega)).trans f1, f2⟩), (fun i hi => (mi_set_ne (by omega)).trans (hfi i hi)), (fun i hi => (mi_set_ne (by omega)).trans (hle i hi)), ((mi_set_ne (by omega)).trans hd), ((mi_set_ne (by omega)).trans hb), ((mi_set_ne (by omega)).trans hc), ((mi_set_ne (by omega)).trans hm), (fun i hi => (mi_set_ne (by omega)).trans (hS i hi)), (fun i hi => (mi_set_ne (by omega)).trans (hB i hi)), (fun i hi => (mi_set_ne (by omega)).trans (hT i hi))⟩
theorem ph_W.set_dr (hw : ph_W B q fi le h) (i : Nat) (x : UInt64) (r t f : Int32) : ph_W B (q.1, q.2.1, q.2.2.1, q.2.2.2.1, (i, x, r, t, f), q.2.2.2.2.2) fi le (mi_set h (B + 26) (dv_c i x r t f)) := by
  obtain ⟨hz, hp, hs, ht, hf, hff, hfl, hfi, hle, hd, hb, hc, hm, hS, hB, hT⟩ := hw
  exact ⟨hz, ((mi_set_ne (by omega)).trans hp), (let ⟨f, f1, f2⟩ := hs; ⟨f, (mi_set_ne (by omega)).trans f1, f2⟩), (let ⟨f, f1, f2⟩ := ht; ⟨f, (mi_set_ne (by omega)).trans f1, f2⟩), ((mi_set_ne (by omega)).trans hf), (let ⟨f, f1, f2⟩ := hff; ⟨f, (mi_set_ne (by omega)).trans f1, f2⟩), (let ⟨f, f1, f2⟩ := hfl; ⟨f, (mi_set_ne (by omega)).trans f1, f2⟩), (fun i hi => (mi_set_ne (by omega)).trans (hfi i hi)), (fun i hi => (mi_set_ne (by omega)).trans (hle i hi)), mi_set_self, ((mi_set_ne (by omega)).trans hb), ((mi_set_ne (by omega)).trans hc), ((mi_set_ne (by omega)).trans hm), (fun i hi => (mi_set_ne (by omega)).trans (hS i hi)), (fun i hi => (mi_set_ne (by omega)).trans (hB i hi)), (fun i hi => (mi_set_ne (by omega)).trans (hT i hi))⟩
theorem ph_W.set_cp (hw : ph_W B q fi le h) (v : Int64) (e : Int32) : ph_W B (q.1, q.2.1, q.2.2.1, q.2.2.2.1, q.2.2.2.2.1, (v, e), q.2.2.2.2.2.2) fi le (mi_set h (B + 28) (bl_c v e)) := by
  obtain ⟨hz, hp, hs, ht, hf, hff, hfl, hfi, hle, hd, hb, hc, hm, hS, hB, hT⟩ := hw
  exact ⟨hz, ((mi_set_ne (by omega)).trans hp), (let ⟨f, f1, f2⟩ := hs; ⟨f, (mi_set_ne (by omega)).trans f1, f2⟩), (let ⟨f, f1, f2⟩ := ht; ⟨f, (mi_set_ne (by omega)).trans f1, f2⟩), ((mi_set_ne (by omega)).trans hf), (let ⟨f, f1, f2⟩ := hff; ⟨f, (mi_set_ne (by omega)).trans f1, f2⟩), (let ⟨f, f1, f2⟩ := hfl; ⟨f, (mi_set_ne (by omega)).trans f1, f2⟩), (fun i hi => (mi_set_ne (by omega)).trans (hfi i hi)), (fun i hi => (mi_set_ne (by omega)).trans (hle i hi)), ((mi_set_ne (by omega)).trans hd), ((mi_set_ne (by omega)).trans hb), mi_set_self, ((mi_set_ne (by omega)).trans hm), (fun i hi => (mi_set_ne (by omega)).trans (hS i hi)), (fun i hi => (mi_set_ne (by omega)).trans (hB i hi)), (fun i hi => (mi_set_ne (by omega)).trans (hT i hi))⟩
theorem ph_W.set_mk (hw : ph_W B q fi le h) (k : mk_S) : ph_W B (q.1, q.2.1, q.2.2.1, q.2.2.2.1, q.2.2.2.2.1, q.2.2.2.2.2.1, k) fi le (mi_set h (B + 29) (mk_c k)) := by
  obtain ⟨hz, hp, hs, ht, hf, hff, hfl, hfi, hle, hd, hb, hc, hm, hS, hB, hT⟩ := hw
  exact ⟨hz, ((mi_set_ne (by omega)).trans hp), (let ⟨f, f1, f2⟩ := hs; ⟨f, (mi_set_ne (by omega)).trans f1, f2⟩), (let ⟨f, f1, f2⟩ := ht; ⟨f, (mi_set_ne (by omega)).trans f1, f2⟩), ((mi_set_ne (by omega)).trans hf), (let ⟨f, f1, f2⟩ := hff; ⟨f, (mi_set_ne (by omega)).trans f1, f2⟩), (let ⟨f, f1, f2⟩ := hfl; ⟨f, (mi_set_ne (by omega)).trans f1, f2⟩), (fun i hi => (mi_set_ne (by omega)).trans (hfi i hi)), (fun i hi => (mi_set_ne (by omega)).trans (hle i hi)), ((mi_set_ne (by omega)).trans hd), ((mi_set_ne (by omega)).trans hb), ((mi_set_ne (by omega)).trans hc), mi_set_self, (fun i hi => (mi_set_ne (by omega)).trans (hS i hi)), (fun i hi => (mi_set_ne (by omega)).trans (hB i hi)), (fun i hi => (mi_set_ne (by omega)).trans (hT i hi))⟩
theorem ph_W.set_se (hw : ph_W B q fi le h) (s : Nat) (hs1 : s < 240) (w : se_S) : ph_W B (q.1, va_up q.2.1 s w, q.2.2) fi le (mi_set h (B + 30 + 2 * s) (se_c (nI s) (B + 31 + 2 * s) w)) := by
  obtain ⟨hz, hp, hs, ht, hf, hff, hfl, hfi, hle, hd, hb, hc, hm, hS, hB, hT⟩ := hw
  exact ⟨hz, ((mi_set_ne (by omega)).trans hp), (let ⟨f, f1, f2⟩ := hs; ⟨f, (mi_set_ne (by omega)).trans f1, f2⟩), (let ⟨f, f1, f2⟩ := ht; ⟨f, (mi_set_ne (by omega)).trans f1, f2⟩), ((mi_set_ne (by omega)).trans hf), (let ⟨f, f1, f2⟩ := hff; ⟨f, (mi_set_ne (by omega)).trans f1, f2⟩), (let ⟨f, f1, f2⟩ := hfl; ⟨f, (mi_set_ne (by omega)).trans f1, f2⟩), (fun i hi => (mi_set_ne (by omega)).trans (hfi i hi)), (fun i hi => (mi_set_ne (by omega)).trans (hle i hi)), ((mi_set_ne (by omega)).trans hd), ((mi_set_ne (by omega)).trans hb), ((mi_set_ne (by omega)).trans hc), ((mi_set_ne (by omega)).trans hm), (fun i hi => by
    by_cases e : i = s
    · subst e
      rw [mi_set_self]
      show _ = se_c (nI i) (B + 31 + 2 * i) (va_up q.2.1 _ w i)
      rw [show va_up _ i _ i = _ from if_pos rfl]
    · rw [mi_set_ne (by omega), hS i hi]
      show _ = se_c (nI i) (B + 31 + 2 * i) (va_up q.2.1 _ w i)
      rw [show va_up _ s _ i = _ from if_neg e]), (fun i hi => (mi_set_ne (by omega)).trans (hB i hi)), (fun i hi => (mi_set_ne (by omega)).trans (hT i hi))⟩
theorem ph_W.set_bl (hw : ph_W B q fi le h) (s : Nat) (hs1 : s < 240) (w : Int64 × Int32) : ph_W B (q.1, q.2.1, va_up q.2.2.1 s w, q.2.2.2) fi le (mi_set h (B + 31 + 2 * s) (bl_c w.1 w.2)) := by
  obtain ⟨hz, hp, hs, ht, hf, hff, hfl, hfi, hle, hd, hb, hc, hm, hS, hB, hT⟩ := hw
  exact ⟨hz, ((mi_set_ne (by omega)).trans hp), (let ⟨f, f1, f2⟩ := hs; ⟨f, (mi_set_ne (by omega)).trans f1, f2⟩), (let ⟨f, f1, f2⟩ := ht; ⟨f, (mi_set_ne (by omega)).trans f1, f2⟩), ((mi_set_ne (by omega)).trans hf), (let ⟨f, f1, f2⟩ := hff; ⟨f, (mi_set_ne (by omega)).trans f1, f2⟩), (let ⟨f, f1, f2⟩ := hfl; ⟨f, (mi_set_ne (by omega)).trans f1, f2⟩), (fun i hi => (mi_set_ne (by omega)).trans (hfi i hi)), (fun i hi => (mi_set_ne (by omega)).trans (hle i hi)), ((mi_set_ne (by omega)).trans hd), ((mi_set_ne (by omega)).trans hb), ((mi_set_ne (by omega)).trans hc), ((mi_set_ne (by omega)).trans hm), (fun i hi => (mi_set_ne (by omega)).trans (hS i hi)), (fun i hi => by
    by_cases e : i = s
    · subst e
      rw [mi_set_self]
      show _ = bl_c (va_up q.2.2.1 _ w i).1 (va_up q.2.2.1 _ w i).2
      rw [show va_up _ i _ i = _ from if_pos rfl]
    · rw [mi_set_ne (by omega), hB i hi]
      show _ = bl_c (va_up q.2.2.1 _ w i).1 (va_up q.2.2.1 _ w i).2
      rw [show va_up _ s _ i = _ from if_neg e]), (fun i hi => (mi_set_ne (by omega)).trans (hT i hi))⟩
theorem ph_W.set_tr (hw : ph_W B q fi le h) (t : Nat) (ht1 : t < 8) (w : tr_S) : ph_W B (q.1, q.2.1, q.2.2.1, va_up q.2.2.2.1 t w, q.2.2.2.2) fi le (mi_set h (B + 510 + t) (tr_c w)) := by
  obtain ⟨hz, hp, hs, ht, hf, hff, hfl, hfi, hle, hd, hb, hc, hm, hS, hB, hT⟩ := hw
  exact ⟨hz, ((mi_set_ne (by omega)).trans hp), (let ⟨f, f1, f2⟩ := hs; ⟨f, (mi_set_ne (by omega)).trans f1, f2⟩), (let ⟨f, f1, f2⟩ := ht; ⟨f, (mi_set_ne (by omega)).trans f1, f2⟩), ((mi_set_ne (by omega)).trans hf), (let ⟨f, f1, f2⟩ := hff; ⟨f, (mi_set_ne (by omega)).trans f1, f2⟩), (let ⟨f, f1, f2⟩ := hfl; ⟨f, (mi_set_ne (by omega)).trans f1, f2⟩), (fun i hi => (mi_set_ne (by omega)).trans (hfi i hi)), (fun i hi => (mi_set_ne (by omega)).trans (hle i hi)), ((mi_set_ne (by omega)).trans hd), ((mi_set_ne (by omega)).trans hb), ((mi_set_ne (by omega)).trans hc), ((mi_set_ne (by omega)).trans hm), (fun i hi => (mi_set_ne (by omega)).trans (hS i hi)), (fun i hi => (mi_set_ne (by omega)).trans (hB i hi)), (fun i hi => by
    by_cases e : i = t
    · subst e
      rw [mi_set_self]
      show _ = tr_c (va_up q.2.2.2.1 _ w i)
      rw [show va_up _ i _ i = _ from if_pos rfl]
    · rw [mi_set_ne (by omega), hT i hi]
      show _ = tr_c (va_up q.2.2.2.1 _ w i)
      rw [show va_up _ t _ i = _ from if_neg e])⟩
end PHW
section PHR
variable {QX : Nat → Nat → mi_H → Prop} {X : mi_X} {k d mc ms pc : Nat} {lv : mi_L} {st : List Value} {h : mi_H} {Q : Option Value → mi_H → Prop} {tb : List (Nat × Instr)} {B : Nat} {q : ph_T} {fi le : Nat → Nat → Int32}
theorem ph_aaS (ht : mi_tb (pP.2.2.2.1 k).2.1 tb) {s : Nat} (hi : mi_at tb pc = some .aaload) (hw : ph_W B q fi le h) (hs : s < 240) (kk : mi_WX QX pP X k d mc ms (pc + 1) lv (.ref (B + 30 + 2 * s) :: st) h Q) : mi_WX QX pP X k d mc ms pc lv (.int (nI s) :: .ref (B + 1) :: st) h Q := by
  obtain ⟨f, f1, f2⟩ := hw.sec
  have hz := hw.z
  refine mi_aald ht (C := RX5) (t := 4) hi rfl (show 6 ≤ B + 1 by omega) (by omega) f1 (vp_in_lt hs (by decide)) ?_
  rw [nI_clamp (by omega), f2 s hs]
  exact kk
theorem ph_aaT (ht : mi_tb (pP.2.2.2.1 k).2.1 tb) {s : Nat} (hi : mi_at tb pc = some .aaload) (hw : ph_W B q fi le h) (hs : s < 8) (kk : mi_WX QX pP X k d mc ms (pc + 1) lv (.ref (B + 510 + s) :: st) h Q) : mi_WX QX pP X k d mc ms pc lv (.int (nI s) :: .ref (B + 2) :: st) h Q := by
  obtain ⟨f, f1, f2⟩ := hw.trk
  have hz := hw.z
  refine mi_aald ht (C := RX7) (t := 5) hi rfl (show 6 ≤ B + 2 by omega) (by omega) f1 (vp_in_lt hs (by decide)) ?_
  rw [nI_clamp (by omega), f2 s hs]
  exact kk
end PHR
