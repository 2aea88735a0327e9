-- the CLOCK goes on, and stays within bounds
abbrev zv (a : UInt64) : Int := FP.Core.zval FP.Core.b64 (FP.Core.val64 a)
/-- a quarter, in units -/
def qt : Int := ((2 ^ 1072 : Nat) : Int)
theorem n64_of {a : UInt64} (h : FP.Core.val64 a ≠ .nan) : vf_n64 a := by
  have h1 := (FP.Core.ne_nan a).mp h
  unfold vf_n64
  rw [UInt64.le_iff_toNat_le, UInt64.toNat_and, show (0x7fffffffffffffff : UInt64).toNat = 2 ^ 63 - 1 by decide, Nat.and_two_pow_sub_one_eq_mod, show (0x7ff0000000000000 : UInt64).toNat = 9218868437227405312 by decide]
  exact h1
theorem fin_ne {a : UInt64} (h : FP.Core.DFin a) : FP.Core.val64 a ≠ .nan := by
  obtain ⟨s, c, q, h⟩ := h
  rw [h]
  exact FP.Core.Datum.noConfusion
theorem sum_ne {x y : FP.Core.Datum} (hx : ∃ s c q, x = .fin s c q) (hy : ∃ s c q, y = .fin s c q) : FP.Core.round FP.Core.b64 (FP.Core.exactSum x y) ≠ .nan := by
  obtain ⟨s, c, q, rfl⟩ := hx
  obtain ⟨t, d, r, rfl⟩ := hy
  exact FP.Core.roundRatio_ne_nan _ _ _ _ _
theorem fin_of {d : FP.Core.Datum} (hd : FP.Core.fits FP.Core.b64 d) (h : d ≠ .nan) {V : UInt64} (hV : FP.Core.DFin V) (h0 : 0 ≤ FP.Core.zval FP.Core.b64 d) (h1 : FP.Core.zval FP.Core.b64 d ≤ zv V) : ∃ s c q, d = .fin s c q := by
  cases d with
  | nan => exact absurd rfl h
  | fin s c q => exact ⟨s, c, q, rfl⟩
  | inf s =>
    obtain ⟨t, c, q, e⟩ := hV
    have hf := FP.Core.val64_fits V
    unfold zv at h1
    rw [e] at hf h1
    have ht := FP.Core.zmag_lt_top FP.Core.good_b64 hf
    simp only [FP.Core.zval, FP.Core.sgn, FP.Core.zmag] at h0 h1
    generalize FP.Core.b64.tails * 2 ^ (FP.Core.b64.exps - 2) = k at ht h0 h1
    generalize FP.Core.inUnits c q FP.Core.b64.qmin = m at ht h1
    cases s <;> cases t <;> simp only [FP.Core.signed, if_true, Bool.false_eq_true, if_false] at h0 h1 <;> omega
section
variable {x y V : UInt64}
theorem add_ge (hx : FP.Core.DFin x) (hy : FP.Core.DFin y) (hV : FP.Core.val64 V ≠ .nan) (h : zv V ≤ zv x + zv y) : zv V ≤ zv (FP.dadd x y) := by
  show zv V ≤ FP.Core.zval FP.Core.b64 (FP.Core.val64 (FP.Core.dadd x y))
  rw [FP.Core.val64_dadd]
  exact FP.Core.sum_ge FP.Core.good_b64 hx hy (FP.Core.val64_fits x) (FP.Core.val64_fits y) (FP.Core.val64_fits V) hV h
theorem add_le (hx : FP.Core.DFin x) (hy : FP.Core.DFin y) (hV : FP.Core.val64 V ≠ .nan) (h : zv x + zv y ≤ zv V) : zv (FP.dadd x y) ≤ zv V := by
  show FP.Core.zval FP.Core.b64 (FP.Core.val64 (FP.Core.dadd x y)) ≤ zv V
  rw [FP.Core.val64_dadd]
  exact FP.Core.sum_le FP.Core.good_b64 hx hy (FP.Core.val64_fits x) (FP.Core.val64_fits y) (FP.Core.val64_fits V) hV h
theorem fin_0 : FP.Core.DFin 0 := ⟨_, _, _, FP.Core.val64_zero⟩
theorem zv_0 : zv 0 = 0 := FP.Core.zval64_zero
theorem add_fin (hx : FP.Core.DFin x) (hy : FP.Core.DFin y) (hV : FP.Core.DFin V) (h0 : 0 ≤ zv x) (h1 : 0 ≤ zv y) (h : zv x + zv y ≤ zv V) : FP.Core.DFin (FP.dadd x y) := by
  have hn : FP.Core.val64 (FP.dadd x y) ≠ .nan := by
    show FP.Core.val64 (FP.Core.dadd x y) ≠ .nan
    rw [FP.Core.val64_dadd]
    exact sum_ne hx hy
  refine fin_of (FP.Core.val64_fits _) hn hV ?_ (add_le hx hy (fin_ne hV) h)
  have := add_ge hx hy (V := 0) (fin_ne fin_0) (by rw [zv_0]; omega)
  rw [zv_0] at this
  exact this
theorem sub_ge (hx : FP.Core.DFin x) (hy : FP.Core.DFin y) (hV : FP.Core.val64 V ≠ .nan) (h : zv V ≤ zv x - zv y) : zv V ≤ zv (FP.dsub x y) := by
  show zv V ≤ FP.Core.zval FP.Core.b64 (FP.Core.val64 (FP.Core.dsub x y))
  rw [FP.Core.val64_dsub]
  refine FP.Core.sum_ge FP.Core.good_b64 hx ?_ (FP.Core.val64_fits x) (FP.Core.negate_fits (FP.Core.val64_fits y)) (FP.Core.val64_fits V) hV (by rw [FP.Core.zval_negate]; unfold zv at h; omega)
  obtain ⟨s, c, q, e⟩ := hy
  exact ⟨!s, c, q, by rw [e]; rfl⟩
theorem sub_le (hx : FP.Core.DFin x) (hy : FP.Core.DFin y) (hV : FP.Core.val64 V ≠ .nan) (h : zv x - zv y ≤ zv V) : zv (FP.dsub x y) ≤ zv V := by
  show FP.Core.zval FP.Core.b64 (FP.Core.val64 (FP.Core.dsub x y)) ≤ zv V
  rw [FP.Core.val64_dsub]
  refine FP.Core.sum_le FP.Core.good_b64 hx ?_ (FP.Core.val64_fits x) (FP.Core.negate_fits (FP.Core.val64_fits y)) (FP.Core.val64_fits V) hV (by rw [FP.Core.zval_negate]; unfold zv at h; omega)
  obtain ⟨s, c, q, e⟩ := hy
  exact ⟨!s, c, q, by rw [e]; rfl⟩
theorem sub_ne (hx : FP.Core.DFin x) (hy : FP.Core.DFin y) : FP.Core.val64 (FP.dsub x y) ≠ .nan := by
  show FP.Core.val64 (FP.Core.dsub x y) ≠ .nan
  rw [FP.Core.val64_dsub]
  refine sum_ne hx ?_
  obtain ⟨s, c, q, e⟩ := hy
  exact ⟨!s, c, q, by rw [e]; rfl⟩
end
/-- k quarters as a double -/
def kq (k : Nat) : UInt64 := FP.dmul (FP.i2d (nI k)) 4598175219545276416
def kq_c (k : Nat) : Bool := decide ((kq k).toNat % 2 ^ 63 < 9218868437227405312) && decide (zv (kq k) = (k : Int) * qt)
theorem kq_0 : (List.range 2000).all kq_c = true := by decide +kernel
theorem kq_1 : (List.range 2000).all (fun k => kq_c (2000 + k)) = true := by decide +kernel
theorem kq_2 : (List.range 2000).all (fun k => kq_c (4000 + k)) = true := by decide +kernel
theorem kq_3 : (List.range 2000).all (fun k => kq_c (6000 + k)) = true := by decide +kernel
theorem kq_ok {k : Nat} (hk : k < 8000) : FP.Core.DFin (kq k) ∧ zv (kq k) = (k : Int) * qt := by
  have h : kq_c k = true := by
    by_cases h1 : k < 2000
    · exact List.all_eq_true.mp kq_0 k (List.mem_range.mpr h1)
    · by_cases h2 : k < 4000
      · have := List.all_eq_true.mp kq_1 (k - 2000) (List.mem_range.mpr (by omega))
        rwa [show 2000 + (k - 2000) = k by omega] at this
      · by_cases h3 : k < 6000
        · have := List.all_eq_true.mp kq_2 (k - 4000) (List.mem_range.mpr (by omega))
          rwa [show 4000 + (k - 4000) = k by omega] at this
        · have := List.all_eq_true.mp kq_3 (k - 6000) (List.mem_range.mpr (by omega))
          rwa [show 6000 + (k - 6000) = k by omega] at this
  unfold kq_c at h
  rw [Bool.and_eq_true] at h
  exact ⟨(FP.Core.fin_bits _).mpr (of_decide_eq_true h.1), of_decide_eq_true h.2⟩
theorem qt_pos : 0 < qt := by unfold qt; exact Int.natCast_pos.mpr (Nat.two_pow_pos _)
/-- finite, not below 0, at most k quarters -/
def ck (x : UInt64) (k : Nat) : Prop := FP.Core.DFin x ∧ 0 ≤ zv x ∧ zv x ≤ (k : Int) * qt
theorem ck_add {x y : UInt64} {k j : Nat} (hx : ck x k) (hy : ck y j) (h : k + j < 8000) : ck (FP.dadd x y) (k + j) ∧ zv x ≤ zv (FP.dadd x y) := by
  obtain ⟨x1, x2, x3⟩ := hx
  obtain ⟨y1, y2, y3⟩ := hy
  obtain ⟨k1, k2⟩ := kq_ok h
  have e : ((k + j : Nat) : Int) * qt = (k : Int) * qt + (j : Int) * qt := by rw [Int.natCast_add, Int.add_mul]
  have hs : zv x + zv y ≤ zv (kq (k + j)) := by rw [k2, e]; omega
  have g := add_ge (V := x) x1 y1 (fin_ne x1) (by omega)
  exact ⟨⟨add_fin x1 y1 k1 x2 y2 hs, by omega, by rw [← k2]; exact add_le x1 y1 (fin_ne k1) hs⟩, g⟩
/-- by a quarter at least it becomes more -/
theorem ck_more {x y : UInt64} {k : Nat} (hx : ck x k) (hy : FP.Core.DFin y) (hq : qt ≤ zv y) (h : k + 1 < 8000) : zv x < zv (FP.dadd x y) := by
  obtain ⟨x1, x2, x3⟩ := hx
  have hp := qt_pos
  have hm : 0 ≤ zv x / qt := Int.ediv_nonneg x2 (by omega)
  have hd := Int.mul_ediv_add_emod (zv x) qt
  have hr0 := Int.emod_nonneg (zv x) (show qt ≠ 0 by omega)
  have hr1 := Int.emod_lt_of_pos (zv x) hp
  have hk : zv x / qt ≤ k := Int.ediv_le_of_le_mul hp x3
  obtain ⟨n, hn⟩ := Int.eq_ofNat_of_zero_le hm
  obtain ⟨k1, k2⟩ := kq_ok (k := n + 1) (by omega)
  have e : ((n + 1 : Nat) : Int) * qt = qt * (zv x / qt) + qt := by
    rw [hn, Int.natCast_add, Int.add_mul, Int.mul_comm qt]
    simp
  have := add_ge (V := kq (n + 1)) x1 hy (fin_ne k1) (by rw [k2, e]; omega)
  rw [k2, e] at this
  omega
theorem ck_bits {x V : UInt64} (h : x ≤ V) (hv : V.toNat < 9218868437227405312) : FP.Core.DFin x ∧ 0 ≤ zv x ∧ zv x ≤ zv V := by
  have hle := UInt64.le_iff_toNat_le.mp h
  have f1 : FP.Core.DFin x := (FP.Core.fin_bits x).mpr (by omega)
  have f2 : FP.Core.DFin V := (FP.Core.fin_bits V).mpr (by omega)
  have m1 := FP.Core.mono_bits (a := 0) (b := x) (fin_ne fin_0) (fin_ne f1) (by decide) (by omega)
  have m2 := FP.Core.mono_bits (a := x) (b := V) (fin_ne f1) (fin_ne f2) (by omega) (by omega)
  have g1 := FP.Core.dcmp_le (a := 0) (b := x)
  have g2 := FP.Core.dcmp_le (a := x) (b := V)
  refine ⟨f1, ?_, ?_⟩
  · have := (g1.mp (by
      by_cases c : (0 : UInt64).toNat < x.toNat
      · exact Or.inl (m1.1.mpr c)
      · exact Or.inr (m1.2.1.mpr (by rw [show (0 : UInt64).toNat = 0 by decide] at c ⊢; omega)))).2.2
    have z := zv_0
    unfold zv at z ⊢
    omega
  · exact (g2.mp (by
      by_cases c : x.toNat < V.toNat
      · exact Or.inl (m2.1.mpr c)
      · exact Or.inr (m2.2.1.mpr (by omega)))).2.2
theorem ck_0 : ck FP.dconst0 0 := by
  have h := ck_bits (x := FP.dconst0) (V := 0) (by decide) (by decide)
  exact ⟨h.1, h.2.1, by have z := zv_0; omega⟩
theorem zv_14 : zv 4624070917402656768 = 56 * qt := by decide +kernel
theorem ck_seek {i j : Nat} (hi : i < 240) (hj : j < 240) : ck (dr_sk i j) 56 := by
  unfold dr_sk
  by_cases c : i = j
  · rw [if_pos c]
    have h := ck_0
    exact ⟨h.1, h.2.1, by have := h.2.2; have := qt_pos; omega⟩
  · rw [if_neg c]
    have h := ck_bits (dr_cs_ok (dr_x_in hi hj).2 (dr_d_lt hi hj)).2.2.2.2 (by decide)
    exact ⟨h.1, h.2.1, by have := h.2.2; rw [zv_14] at this; exact this⟩
theorem step_tab : ([0, 1, 2] : List Nat).all (fun z => decide ((FP.ddiv 4602678819172646912 (FP.f2d (if z = 0 then FP.fconst1 else if z = 1 then 1067450368 else 1069547520))).toNat < 9218868437227405312) && decide (qt ≤ zv (FP.ddiv 4602678819172646912 (FP.f2d (if z = 0 then FP.fconst1 else if z = 1 then 1067450368 else 1069547520)))) && decide (zv (FP.ddiv 4602678819172646912 (FP.f2d (if z = 0 then FP.fconst1 else if z = 1 then 1067450368 else 1069547520))) ≤ 2 * qt)) = true := by decide +kernel
theorem ck_step (j : Nat) : ck (sp_step j) 2 ∧ qt ≤ zv (sp_step j) := by
  have key : ∀ z ∈ ([0, 1, 2] : List Nat), ck (FP.ddiv 4602678819172646912 (FP.f2d (if z = 0 then FP.fconst1 else if z = 1 then 1067450368 else 1069547520))) 2 ∧ qt ≤ zv (FP.ddiv 4602678819172646912 (FP.f2d (if z = 0 then FP.fconst1 else if z = 1 then 1067450368 else 1069547520))) := by
    intro z hz
    have h := List.all_eq_true.mp step_tab z hz
    rw [Bool.and_eq_true, Bool.and_eq_true] at h
    have h1 := of_decide_eq_true h.1.1
    have h2 := of_decide_eq_true h.1.2
    have h3 := of_decide_eq_true h.2
    have hp := qt_pos
    exact ⟨⟨(FP.Core.fin_bits _).mpr (by omega), by omega, h3⟩, h2⟩
  unfold sp_step sp_spd sp_z
  split
  · exact key 0 (by decide)
  · split
    · exact key 1 (by decide)
    · exact key 2 (by decide)
theorem ck_cb {x : UInt64} {k i j : Nat} (hx : ck x k) (hi : i < 240) (hj : j < 240) (hk : k + 58 < 8000) : dr_okc x i j ∧ ck (dr_cb x i j) (k + 58) ∧ zv x < zv (dr_cb x i j) := by
  obtain ⟨a1, a2⟩ := ck_add hx (ck_seek hi hj) (by omega)
  obtain ⟨s1, s2⟩ := ck_step j
  obtain ⟨b1, b2⟩ := ck_add a1 s1 (by omega)
  have b3 := ck_more a1 s1.1 s2 (by omega)
  exact ⟨⟨n64_of (fin_ne a1.1), n64_of (fin_ne b1.1)⟩, b1, Int.lt_of_le_of_lt a2 b3⟩
