-- what the law's walk keeps
abbrev Z2 : Nat → Nat → Int32 := fun _ _ => 0
def LH (B : Nat) (q : ph_T) (to : Nat → Int64) (h : mi_H) : Prop := ph_W B q Z2 Z2 h ∧ h.2 (B + 518) = .inl (1, 240, .inr (.inl to)) ∧ h.1 = B + 519
def LI (k : Nat) (q : ph_T) (to : Nat → Int64) (rot : Int32) : Prop := (∃ (nx : Int32) (c : Nat), q.1 = (1, 3, nx, nI c, 1) ∧ c ≤ 4) ∧ tk_I q.2.2.2.1 ∧ tk_W q.2.1 q.2.2.2.1 ∧ (q.2.2.2.2.1.1 < 240 ∧ q.2.2.2.2.1.2.2.2.1 = 0 ∧ ck q.2.2.2.2.1.2.1 (58 * k)) ∧ (∀ s, s < 240 → sc_I s (q.2.1 s) (q.2.2.1 s) (to s) rot) ∧ (rot = 0 ∨ rot = 1)
theorem LH.go {B : Nat} {q q' : ph_T} {to : Nat → Int64} {h h1 : mi_H} (hL : LH B q to h) (hx : ph_X B q' Z2 Z2 h h1) : LH B q' to h1 := ⟨hx.1, (hx.2.2 _ (Or.inr (Nat.le_refl _))).trans hL.2.1, hx.2.1.trans hL.2.2⟩
theorem ph_W.out {B : Nat} {q : ph_T} {fi le : Nat → Nat → Int32} {h : mi_H} (hw : ph_W B q fi le h) {b : Nat} (hb : B + 518 ≤ b) (c : mi_C) : ph_W B q fi le (mi_set h b c) := by
  obtain ⟨hz, hp, hs, ht, hf, hff, hfl, hfi, hle, hd, hbe, hc, hm, hS, hB, hT⟩ := hw
  exact ⟨hz, ((mi_set_ne (by omega)).trans hp), (let ⟨f, f1, f2⟩ := hs; ⟨f, (mi_set_ne (by omega)).trans f1, f2⟩), (let ⟨f, f1, f2⟩ := ht; ⟨f, (mi_set_ne (by omega)).trans f1, f2⟩), ((mi_set_ne (by omega)).trans hf), (let ⟨f, f1, f2⟩ := hff; ⟨f, (mi_set_ne (by omega)).trans f1, f2⟩), (let ⟨f, f1, f2⟩ := hfl; ⟨f, (mi_set_ne (by omega)).trans f1, f2⟩), (fun i hi => (mi_set_ne (by omega)).trans (hfi i hi)), (fun i hi => (mi_set_ne (by omega)).trans (hle i hi)), ((mi_set_ne (by omega)).trans hd), ((mi_set_ne (by omega)).trans hbe), ((mi_set_ne (by omega)).trans hc), ((mi_set_ne (by omega)).trans hm), (fun i hi => (mi_set_ne (by omega)).trans (hS i hi)), (fun i hi => (mi_set_ne (by omega)).trans (hB i hi)), (fun i hi => (mi_set_ne (by omega)).trans (hT i hi))⟩
theorem ck.mono {x : UInt64} {k j : Nat} (h : ck x k) (hj : k ≤ j) : ck x j := by
  refine ⟨h.1, h.2.1, Int.le_trans h.2.2 ?_⟩
  exact Int.mul_le_mul_of_nonneg_right (by omega) (Int.le_of_lt qt_pos)
theorem LI.next {k : Nat} {q : ph_T} {to : Nat → Int64} {rot : Int32} (h : LI k q to rot) : LI (k + 1) q to rot := by
  obtain ⟨h1, h2, h3, ⟨h4, h5, h6⟩, h7, h8⟩ := h
  exact ⟨h1, h2, h3, ⟨h4, h5, h6.mono (by omega)⟩, h7, h8⟩
section LIS
variable {k : Nat} {q : ph_T} {to : Nat → Int64} {rot : Int32}
theorem LI.lt (h : LI k q to rot) {t : Nat} (ht : t < 3) : nI t < q.1.2.1 := by
  obtain ⟨⟨nx, c, e, -⟩, -⟩ := h
  rw [e]
  exact nI_lt (b := 3) ht (by decide)
/-- a TRACK's own numbers -/
theorem LI.tk (h : LI k q to rot) {t : Nat} (ht : t < 3) : ∃ (mo cl : Int32) (f g u l : Nat), q.2.2.2.1 t = (0, mo, nI f, nI g, nI u, nI l, cl) ∧ (mo = 0 ∨ mo = 1) ∧ (cl = 0 ∨ cl = 1) ∧ f + g ≤ 240 ∧ l ≤ u ∧ u ≤ g := h.2.1 t ht
theorem tk_I.up {T : Nat → tr_S} (h : tk_I T) {t : Nat} {mo cl : Int32} {f g u l : Nat} (h1 : mo = 0 ∨ mo = 1) (h2 : cl = 0 ∨ cl = 1) (h3 : f + g ≤ 240) (h4 : l ≤ u) (h5 : u ≤ g) : tk_I (va_up T t (0, mo, nI f, nI g, nI u, nI l, cl)) := by
  intro x hx
  show ∃ mo cl f g u l, (if x = t then _ else T x) = _ ∧ _
  by_cases e : x = t
  · rw [if_pos e]
    exact ⟨mo, cl, f, g, u, l, rfl, h1, h2, h3, h4, h5⟩
  · rw [if_neg e]
    exact h x hx
theorem tk_W.up {S : Nat → se_S} {T : Nat → tr_S} (h : tk_W S T) {t : Nat} {w : tr_S} {f u u' : Nat} (h1 : (T t).2.2.1 = nI f) (h2 : (T t).2.2.2.2.1 = nI u) (h3 : w.2.2.1 = nI f) (h4 : w.2.2.2.2.1 = nI u') (h5 : u ≤ u') (h6 : f + u' ≤ 240) : tk_W S (va_up T t w) := by
  intro s hs hw
  obtain ⟨x, f0, u0, a1, a2, a3, a4, a5, a6⟩ := h s hs hw
  by_cases e : x = t
  · subst e
    have e1 : f0 = f := nI_inj (by omega) (by omega) (a2.symm.trans h1)
    have e2 : u0 = u := nI_inj (by omega) (by omega) (a3.symm.trans h2)
    refine ⟨x, f, u', a1, ?_, ?_, by omega, by omega, h6⟩
    · show (if x = x then w else T x).2.2.1 = _
      rw [if_pos rfl, h3]
    · show (if x = x then w else T x).2.2.2.2.1 = _
      rw [if_pos rfl, h4]
  · refine ⟨x, f0, u0, a1, ?_, ?_, a4, a5, a6⟩
    · show (if x = t then w else T x).2.2.1 = _
      rw [if_neg e, a2]
    · show (if x = t then w else T x).2.2.2.2.1 = _
      rw [if_neg e, a3]
theorem tk_W.of {S S' : Nat → se_S} {T : Nat → tr_S} (h : tk_W S T) (e : ∀ s, s < 240 → (S' s).1 = (S s).1) : tk_W S' T := fun s hs hw => h s hs (by rw [← e s hs]; exact hw)
theorem er_1 {s : Nat} {a a' : se_S} {b b' : Int64 × Int32} (h : er_s s a b a' b') : a'.1 = a.1 := by
  rcases h with ⟨rfl, -⟩ | ⟨-, x, -, rfl⟩ <;> rfl
theorem ro_1 {s : Nat} {a a' : se_S} {b b' : Int64 × Int32} (h : ro_s s a b a' b') : a'.1 = a.1 := by
  rcases h with ⟨rfl, -⟩ | ⟨-, p, x, -, -, -, rfl⟩ <;> rfl
theorem tr_room_of {mo : Int32} {f g u l : Nat} (hu : u < g) (hg : g < 1000) : ¬ tr_room (0, mo, nI f, nI g, nI u, nI l, 0) = 0 := by
  unfold tr_room
  rw [if_pos ⟨rfl, nI_lt hu (by omega)⟩]
  decide
theorem LI.starve (h : LI k q to rot) {t : Nat} (ht : t < 3) {mo : Int32} {f g u l : Nat} (e : q.2.2.2.1 t = (0, mo, nI f, nI g, nI u, nI l, 0)) (hm : mo = 0 ∨ mo = 1) (h3 : f + g ≤ 240) (h4 : l ≤ u) (h5 : u < g) (hc : 0 < q.1.2.2.2.1) :
    LI (k + 1) ((q.1.1, q.1.2.1, q.1.2.2.1, q.1.2.2.2.1 - 1, q.1.2.2.2.2), q.2.1, q.2.2.1, va_up q.2.2.2.1 t ((q.2.2.2.1 t).1, (q.2.2.2.1 t).2.1, (q.2.2.2.1 t).2.2.1, (q.2.2.2.1 t).2.2.2.1, (q.2.2.2.1 t).2.2.2.2.1 + 1, (q.2.2.2.1 t).2.2.2.2.2.1 + 1, (q.2.2.2.1 t).2.2.2.2.2.2), q.2.2.2.2) to rot ∧ q.1.2.2.2.1 - 1 ≤ q.1.2.2.2.1 := by
  obtain ⟨⟨nx, c, e1, e2⟩, i2, i3, i4, i5, i6⟩ := h.next
  rw [e1] at hc ⊢
  have hc1 : 0 < c := by
    rcases Nat.eq_zero_or_pos c with z | z
    · rw [z] at hc
      exact absurd (show (0 : Int32) < nI 0 from hc) (by decide)
    · exact z
  have ec : nI c - 1 = nI (c - 1) := by
    have := nI_pred (c - 1)
    rwa [show c - 1 + 1 = c by omega] at this
  rw [e]
  refine ⟨⟨⟨nx, c - 1, ?_, by omega⟩, ?_, ?_, i4, i5, i6⟩, ?_⟩
  · show (1, 3, nx, nI c - 1, 1) = _
    rw [ec]
  · show tk_I (va_up q.2.2.2.1 t (0, mo, nI f, nI g, nI u + 1, nI l + 1, 0))
    rw [← nI_succ, ← nI_succ]
    exact i2.up hm (Or.inl rfl) h3 (by omega) (by omega)
  · exact i3.up (f := f) (u := u) (u' := u + 1) (by rw [e]) (by rw [e]) rfl (nI_succ u).symm (by omega) (by omega)
  · show nI c - 1 ≤ nI c
    rw [ec]
    exact nI_le (by omega) (by omega)
theorem LI.er (h : LI k q to rot) {S : Nat → se_S} {b : Nat → Int64 × Int32} {cp : Int64 × Int32} {mk : mk_S} (he : ∀ s, s < 240 → er_s s (q.2.1 s) (q.2.2.1 s) (S s) (b s)) : LI (k + 1) (q.1, S, b, q.2.2.2.1, q.2.2.2.2.1, cp, mk) to rot := by
  obtain ⟨i1, i2, i3, i4, i5, i6⟩ := h.next
  exact ⟨i1, i2, i3.of fun s hs => er_1 (he s hs), i4, fun s hs => sc_er (i5 s hs) (he s hs), i6⟩
theorem LI.ro (h : LI k q to rot) {S : Nat → se_S} {b : Nat → Int64 × Int32} {cp : Int64 × Int32} {mk : mk_S} (he : ∀ s, s < 240 → ro_s s (q.2.1 s) (q.2.2.1 s) (S s) (b s)) : LI (k + 1) (q.1, S, b, q.2.2.2.1, q.2.2.2.2.1, cp, mk) to 1 := by
  obtain ⟨i1, i2, i3, i4, i5, i6⟩ := h.next
  exact ⟨i1, i2, i3.of fun s hs => ro_1 (he s hs), i4, fun s hs => sc_ro (i5 s hs) (he s hs), Or.inr rfl⟩
theorem LI.read (h : LI k q to rot) (hk : k < 80) {j : Nat} (hj : j < 240) : dr_okc q.2.2.2.2.1.2.1 q.2.2.2.2.1.1 j ∧ LI (k + 1) (q.1, q.2.1, q.2.2.1, q.2.2.2.1, (hd_b j, dr_cb q.2.2.2.2.1.2.1 q.2.2.2.2.1.1 j, q.2.2.2.2.1.2.2.1 + 1, q.2.2.2.2.1.2.2.2.1, q.2.2.2.2.1.2.2.2.2), q.2.2.2.2.2) to rot ∧ zv q.2.2.2.2.1.2.1 ≤ zv (dr_cb q.2.2.2.2.1.2.1 q.2.2.2.2.1.1 j) := by
  obtain ⟨i1, i2, i3, ⟨i4, i7, i8⟩, i5, i6⟩ := h
  obtain ⟨c1, c2, c3⟩ := ck_cb i8 i4 hj (by omega)
  refine ⟨c1, ⟨i1, i2, i3, ⟨(hd_ok hj).2, i7, ?_⟩, i5, i6⟩, Int.le_of_lt c3⟩
  rw [show 58 * (k + 1) = 58 * k + 58 by omega]
  exact c2
theorem LI.close0 (h : LI k q to rot) {t : Nat} {mo cl : Int32} {f g u l : Nat} (e : q.2.2.2.1 t = (0, mo, nI f, nI g, nI u, nI l, cl)) (hm : mo = 0 ∨ mo = 1) (h3 : f + g ≤ 240) (h4 : l ≤ u) (h5 : u ≤ g) :
    LI (k + 1) (q.1, q.2.1, q.2.2.1, va_up q.2.2.2.1 t ((q.2.2.2.1 t).1, (q.2.2.2.1 t).2.1, (q.2.2.2.1 t).2.2.1, (q.2.2.2.1 t).2.2.2.1, (q.2.2.2.1 t).2.2.2.2.1, (q.2.2.2.1 t).2.2.2.2.2.1, 1), q.2.2.2.2) to rot := by
  obtain ⟨i1, i2, i3, i4, i5, i6⟩ := h.next
  rw [e]
  exact ⟨i1, i2.up hm (Or.inr rfl) h3 h4 h5, i3.up (f := f) (u := u) (u' := u) (by rw [e]) (by rw [e]) rfl rfl (by omega) (by omega), i4, i5, i6⟩
theorem LI.close1 (h : LI k q to rot) {t : Nat} {mo cl : Int32} {f g u l : Nat} (e : q.2.2.2.1 t = (0, mo, nI f, nI g, nI u, nI l, cl)) (hm : mo = 0 ∨ mo = 1) (h3 : f + g ≤ 240) (h4 : l ≤ u) (h5 : u ≤ g) :
    LI (k + 1) ((q.1.1, q.1.2.1, (q.2.2.2.1 t).2.2.1 + (q.2.2.2.1 t).2.2.2.2.1, q.1.2.2.2.1, q.1.2.2.2.2), q.2.1, q.2.2.1, va_up q.2.2.2.1 t ((q.2.2.2.1 t).1, (q.2.2.2.1 t).2.1, (q.2.2.2.1 t).2.2.1, (q.2.2.2.1 t).2.2.2.2.1, (q.2.2.2.1 t).2.2.2.2.1, (q.2.2.2.1 t).2.2.2.2.2.1, 1), q.2.2.2.2) to rot := by
  obtain ⟨⟨nx, c, e1, e2⟩, i2, i3, i4, i5, i6⟩ := h.next
  rw [e1, e]
  exact ⟨⟨_, c, rfl, e2⟩, i2.up hm (Or.inr rfl) (by omega) h4 (Nat.le_refl _), i3.up (f := f) (u := u) (u' := u) (by rw [e]) (by rw [e]) rfl rfl (by omega) (by omega), i4, i5, i6⟩
theorem LI.write (h : LI k q to rot) {t : Nat} (ht : t < 3) {mo : Int32} {f g u l : Nat} (e : q.2.2.2.1 t = (0, mo, nI f, nI g, nI u, nI l, 0)) (hm : mo = 0 ∨ mo = 1) (h3 : f + g ≤ 240) (h4 : l ≤ u) (h5 : u < g) {m : Int64} (hm6 : okm m) (da : Int32) {cp : Int64 × Int32} {mk : mk_S} :
    LI (k + 1) (q.1, va_up q.2.1 (f + u) (se_rk (nI (f + u)) (1, da, se_sum m, (q.2.1 (f + u)).2.2.2) (bl_spread (se_mix (nI (f + u)) m)) 0), va_up q.2.2.1 (f + u) (bl_spread (se_mix (nI (f + u)) m), 0), va_up q.2.2.2.1 t ((q.2.2.2.1 t).1, (q.2.2.2.1 t).2.1, (q.2.2.2.1 t).2.2.1, (q.2.2.2.1 t).2.2.2.1, (q.2.2.2.1 t).2.2.2.2.1 + 1, (q.2.2.2.1 t).2.2.2.2.2), q.2.2.2.2.1, cp, mk) (va_up to (f + u) m) rot := by
  obtain ⟨i1, i2, i3, i4, i5, i6⟩ := h.next
  rw [e]
  have hT : tk_I (va_up q.2.2.2.1 t (0, mo, nI f, nI g, nI u + 1, nI l, 0)) := by
    rw [← nI_succ]
    exact i2.up hm (Or.inl rfl) h3 (by omega) (by omega)
  have hW : tk_W q.2.1 (va_up q.2.2.2.1 t (0, mo, nI f, nI g, nI u + 1, nI l, 0)) := i3.up (f := f) (u := u) (u' := u + 1) (by rw [e]) (by rw [e]) rfl (nI_succ u).symm (by omega) (by omega)
  refine ⟨i1, hT, fun s hs hw => ?_, i4, fun s hs => ?_, i6⟩
  · by_cases es : s = f + u
    · refine ⟨t, f, u + 1, ht, ?_, ?_, by omega, by omega, by omega⟩
      · show (if t = t then _ else q.2.2.2.1 t : tr_S).2.2.1 = _
        rw [if_pos rfl]
      · show (if t = t then _ else q.2.2.2.1 t : tr_S).2.2.2.2.1 = _
        rw [if_pos rfl, nI_succ]
    · refine hW s hs fun z => hw ?_
      show (if s = f + u then _ else q.2.1 s : se_S).1 = 0
      rw [if_neg es]
      exact z
  · show sc_I s (if s = f + u then _ else q.2.1 s) (if s = f + u then _ else q.2.2.1 s) (if s = f + u then m else to s) rot
    by_cases es : s = f + u
    · rw [if_pos es, if_pos es, if_pos es, es]
      exact sc_write hm6 da _ rot
    · rw [if_neg es, if_neg es, if_neg es]
      exact i5 s hs
end LIS
