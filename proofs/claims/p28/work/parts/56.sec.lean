-- what stays true of a SECTOR
def sc_R (s : Nat) (a : se_S) (b : Int64 × Int32) : Prop := a = se_rk (nI s) a b.1 b.2 ∧ bl_clr b.2 b.1 16 = b.1
def sc_G (s : Nat) (a : se_S) (b : Int64 × Int32) (m : Int64) : Prop := b.1 = bl_clr b.2 (bl_spread (se_mix (nI s) m)) 16 ∧ a.2.2.1 = se_sum m ∧ okm m
def sc_I (s : Nat) (a : se_S) (b : Int64 × Int32) (m : Int64) (rot : Int32) : Prop := (a.1 = 0 → a.2.2.2.1 = 2) ∧ (¬ a.1 = 0 → a.1 = 1 ∧ sc_R s a b ∧ (rot = 0 → sc_G s a b m))
theorem isE_or (e x : Int32) {k : Nat} (hk : k < 16) (h : ¬ bl_isE (e ||| x) (nI k) = 1) : ¬ bl_isE e (nI k) = 1 := by
  rw [pb_isE _ hk] at h ⊢
  rw [Int32.toBitVec_or, BitVec.getLsbD_or] at h
  intro z
  apply h
  by_cases c : e.toBitVec.getLsbD k = true
  · rw [c]; rfl
  · rw [if_neg c] at z
    exact absurd z (by decide)
theorem clr_clr (e x : Int32) (W : Int64) : bl_clr (e ||| x) (bl_clr e W 16) 16 = bl_clr (e ||| x) W 16 := by
  refine pb_ext fun k hk => ?_
  rw [at_clr16 _ _ hk, at_clr16 _ _ hk, at_clr16 _ _ hk]
  by_cases c : bl_isE (e ||| x) (nI k) = 1
  · rw [if_pos c, if_pos c]
  · rw [if_neg c, if_neg c, if_neg (isE_or e x hk c)]
theorem clr_same (e : Int32) (W : Int64) : bl_clr e (bl_clr e W 16) 16 = bl_clr e W 16 := by
  refine pb_ext fun k hk => ?_
  rw [at_clr16 _ _ hk, at_clr16 _ _ hk]
  by_cases c : bl_isE e (nI k) = 1
  · rw [if_pos c, if_pos c]
  · rw [if_neg c, if_neg c]
theorem sc_write {s : Nat} {m : Int64} (hm : okm m) (da : Int32) (r : Int32 × Int64 × Int32 × Int32 × Int32) (rot : Int32) : sc_I s (se_rk (nI s) (1, da, se_sum m, r) (bl_spread (se_mix (nI s) m)) 0) (bl_spread (se_mix (nI s) m), 0) m rot :=
  ⟨fun z => absurd (show (1 : Int32) = 0 from z) (by decide), fun _ => ⟨rfl, ⟨rfl, clr_0 _⟩, fun _ => ⟨(clr_0 _).symm, rfl, hm⟩⟩⟩
theorem sc_er {s : Nat} {a a' : se_S} {b b' : Int64 × Int32} {m : Int64} {rot : Int32} (h : sc_I s a b m rot) (he : er_s s a b a' b') : sc_I s a' b' m rot := by
  rcases he with ⟨rfl, rfl⟩ | ⟨hw, x, rfl, rfl⟩
  · exact h
  · obtain ⟨w1, ⟨w2, w3⟩, w4⟩ := h.2 hw
    refine ⟨fun z => absurd (show a.1 = 0 from z) hw, fun _ => ⟨w1, ⟨rfl, clr_same _ _⟩, fun z => ?_⟩⟩
    obtain ⟨g1, g2, g3⟩ := w4 z
    refine ⟨?_, g2, g3⟩
    show bl_clr (b.2 ||| x) b.1 16 = _
    rw [g1]
    exact clr_clr _ _ _
theorem sc_ro {s : Nat} {a a' : se_S} {b b' : Int64 × Int32} {m : Int64} {rot : Int32} (h : sc_I s a b m rot) (he : ro_s s a b a' b') : sc_I s a' b' m 1 := by
  rcases he with ⟨rfl, rfl⟩ | ⟨hw, p, x, hp, hE, rfl, rfl⟩
  · exact ⟨h.1, fun z => ⟨(h.2 z).1, (h.2 z).2.1, fun y => absurd y (by decide)⟩⟩
  · obtain ⟨w1, ⟨w2, w3⟩, w4⟩ := h.2 hw
    refine ⟨fun z => absurd (show a.1 = 0 from z) hw, fun _ => ⟨w1, ⟨rfl, ?_⟩, fun z => absurd z (by decide)⟩⟩
    show bl_clr b.2 (bl_put b.1 (nI p) x) 16 = bl_put b.1 (nI p) x
    refine pb_ext fun k hk => ?_
    have h3 := at_clr16 b.2 b.1 hk
    rw [w3] at h3
    rw [at_clr16 _ _ hk, pb_at_put _ hp hk]
    by_cases c : bl_isE b.2 (nI k) = 1
    · by_cases ek : k = p
      · rw [ek, hE] at c
        exact absurd c (by decide)
      · rw [if_pos c] at h3 ⊢
        rw [if_neg ek, h3]
    · rw [if_neg c]
theorem sc_st {s : Nat} {a : se_S} {b : Int64 × Int32} {m : Int64} {rot : Int32} (h : sc_I s a b m rot) : a.2.2.2.1 = 0 ∨ a.2.2.2.1 = 1 ∨ a.2.2.2.1 = 2 := by
  by_cases c : a.1 = 0
  · exact Or.inr (Or.inr (h.1 c))
  · obtain ⟨w1, ⟨w2, w3⟩, w4⟩ := h.2 c
    rw [w2]
    show se_jd _ _ _ _ _ _ = 0 ∨ se_jd _ _ _ _ _ _ = 1 ∨ se_jd _ _ _ _ _ _ = 2
    unfold se_jd
    split
    · exact Or.inr (Or.inr rfl)
    · split
      · split
        · split
          · exact Or.inr (Or.inl rfl)
          · exact Or.inl rfl
        · exact Or.inr (Or.inl rfl)
      · exact Or.inr (Or.inr rfl)
/-- without ROT, what is WRITTEN isn't BAD, and tells what was written if it is GOOD -/
theorem sc_good {s : Nat} (hs : s < 240) {a : se_S} {b : Int64 × Int32} {m : Int64} (h : sc_I s a b m 0) (hw : ¬ a.1 = 0) : ¬ a.2.2.2.1 = 1 ∧ (a.2.2.2.1 = 0 → a.2.2.2.2.1 = m) := by
  obtain ⟨w1, ⟨w2, w3⟩, w4⟩ := h.2 hw
  obtain ⟨g1, g2, g3⟩ := w4 rfl
  have ev := ev_spread (se_mix (nI s) m)
  have mo := fun z => mend_ok ev (e := b.2) z
  rw [← g1] at mo
  have jd : ((bl_mend b.1 b.2).2 = 0 ∧ se_jd (nI s) a.1 a.2.1 a.2.2.1 (bl_mend b.1 b.2).1 (bl_mend b.1 b.2).2 = 0) ∨ se_jd (nI s) a.1 a.2.1 a.2.2.1 (bl_mend b.1 b.2).1 (bl_mend b.1 b.2).2 = 2 := by
    unfold se_jd
    rw [if_neg hw]
    by_cases c : (bl_mend b.1 b.2).2 = 0
    · left
      rw [if_pos c, mo c, if_pos (Or.inr (by rw [mix_back hs g3, g2])), ev_even ev, if_neg (by decide)]
      exact ⟨c, rfl⟩
    · right
      rw [if_neg c]
  have e1 : a.2.2.2.1 = se_jd (nI s) a.1 a.2.1 a.2.2.1 (bl_mend b.1 b.2).1 (bl_mend b.1 b.2).2 := congrArg (fun q : se_S => q.2.2.2.1) w2
  have e2 : a.2.2.2.2.1 = if se_jd (nI s) a.1 a.2.1 a.2.2.1 (bl_mend b.1 b.2).1 (bl_mend b.1 b.2).2 = 2 then -1 else se_mix (nI s) (ga_n (bl_mend b.1 b.2).1 9) := congrArg (fun q : se_S => q.2.2.2.2.1) w2
  rcases jd with ⟨j0, j1⟩ | j1
  · rw [e1, e2, j1]
    refine ⟨by decide, fun _ => ?_⟩
    rw [if_neg (by decide), mo j0]
    exact mix_back hs g3
  · rw [e1, j1]
    exact ⟨by decide, fun z => absurd z (by decide)⟩
theorem sc_marks {s : Nat} {a : se_S} {b : Int64 × Int32} {m : Int64} {rot : Int32} (h : sc_I s a b m rot) (hw : ¬ a.1 = 0) : a.2.2.2.2.2.1 ≤ 128 ∧ (if 0 ≤ a.2.2.2.2.2.2.1 then a.2.2.2.2.2.2.1 else 0 - a.2.2.2.2.2.2.1) ≤ a.2.2.2.2.2.2.2 := by
  obtain ⟨w1, ⟨w2, w3⟩, w4⟩ := h.2 hw
  have e1 : a.2.2.2.2.2.1 = (mk_all b.1 16).1.2.2.1 := congrArg (fun q : se_S => q.2.2.2.2.2.1) w2
  have e2 : a.2.2.2.2.2.2.1 = (mk_all b.1 16).1.2.1 := congrArg (fun q : se_S => q.2.2.2.2.2.2.1) w2
  have e3 : a.2.2.2.2.2.2.2 = (mk_all b.1 16).1.2.2.2 := congrArg (fun q : se_S => q.2.2.2.2.2.2.2) w2
  rw [e1, e2, e3]
  exact mk_fit b.1
/-- asked what it would be without anything more ERASED, it is what it is -/
theorem sc_would {s : Nat} {a : se_S} {b : Int64 × Int32} {m : Int64} {rot : Int32} (h : sc_I s a b m rot) (hw : ¬ a.1 = 0) : se_jd (nI s) a.1 a.2.1 a.2.2.1 (bl_mend (bl_clr (b.2 ||| 0) b.1 16) (b.2 ||| 0)).1 (bl_mend (bl_clr (b.2 ||| 0) b.1 16) (b.2 ||| 0)).2 = a.2.2.2.1 := by
  obtain ⟨w1, ⟨w2, w3⟩, w4⟩ := h.2 hw
  rw [Int32.or_zero, w3]
  exact (congrArg (fun q : se_S => q.2.2.2.1) w2).symm
/-- how many of the first j are WRITTEN -/
def wr_n (S : Nat → se_S) : Nat → Int32
  | 0 => 0
  | j + 1 => if (S j).1 = 0 then wr_n S j else wr_n S j + 1
theorem wr_sum {S : Nat → se_S} : ∀ j, (∀ i, i < j → ¬ (S i).1 = 0 → (S i).2.2.2.1 = 0 ∨ (S i).2.2.2.1 = 1 ∨ (S i).2.2.2.1 = 2) → ph_wo S 0 j + ph_wo S 1 j + ph_wo S 2 j = wr_n S j
  | 0, _ => by
    show (0 : Int32) + 0 + 0 = 0
    decide
  | j + 1, h => by
    have ih := wr_sum j (fun i hi => h i (by omega))
    unfold ph_wo wr_n
    by_cases c : (S j).1 = 0
    · rw [if_pos c, if_pos c, if_pos c, if_pos c]
      exact ih
    · rw [if_neg c, if_neg c, if_neg c, if_neg c, ← ih]
      rcases h j (by omega) c with e | e | e
      · rw [e, if_pos rfl, if_neg (by decide), if_neg (by decide)]
        ac_rfl
      · rw [e, if_neg (by decide), if_pos rfl, if_neg (by decide)]
        ac_rfl
      · rw [e, if_neg (by decide), if_neg (by decide), if_pos rfl]
        ac_rfl
-- TRACKS
def tk_I (T : Nat → tr_S) : Prop := ∀ t, t < 3 → ∃ (mo cl : Int32) (f g u l : Nat), T t = (0, mo, nI f, nI g, nI u, nI l, cl) ∧ (mo = 0 ∨ mo = 1) ∧ (cl = 0 ∨ cl = 1) ∧ f + g ≤ 240 ∧ l ≤ u ∧ u ≤ g
def tk_W (S : Nat → se_S) (T : Nat → tr_S) : Prop := ∀ s, s < 240 → ¬ (S s).1 = 0 → ∃ t f u, t < 3 ∧ (T t).2.2.1 = nI f ∧ (T t).2.2.2.2.1 = nI u ∧ f ≤ s ∧ s < f + u ∧ f + u ≤ 240
theorem tof_pos {S : Nat → se_S} {T : Nat → tr_S} (hT : tk_I T) (hW : tk_W S T) {s : Nat} (hs : s < 240) (hw : ¬ (S s).1 = 0) : ¬ ph_tof T (nI s) 0 3 < 0 := by
  obtain ⟨t, f, u, ht, hf, hu, h1, h2, h3⟩ := hW s hs hw
  obtain ⟨mo, cl, f', g, u', l, e, -, -, k1, k2, k3⟩ := hT t ht
  rw [e] at hf hu
  have ef : f' = f := nI_inj (by omega) (by omega) hf
  have eu : u' = u := nI_inj (by omega) (by omega) hu
  subst ef eu
  have hh : ¬ tr_holds (T t) (nI s) = 0 := by
    rw [e]
    unfold tr_holds
    dsimp only
    rw [if_pos ⟨nI_le (by omega) (by omega), by rw [nI_add]; exact nI_lt (by omega) (by omega)⟩]
    decide
  unfold ph_tof
  split
  · unfold ph_tof
    split
    · unfold ph_tof
      split
      · rename_i a b c
        have : t = 0 ∨ t = 1 ∨ t = 2 := by omega
        rcases this with rfl | rfl | rfl
        · exact absurd a hh
        · exact absurd b hh
        · exact absurd c hh
      · decide
    · decide
  · decide
