-- what is spread is even, and is gathered again
def pl (k : Nat) : Nat := k / 3 * 4 + k % 3
theorem pl_eq : ∀ k, k < 9 → bl_pl (nI k) = nI (pl k) := by decide
theorem pl_lt {k : Nat} (h : k < 9) : pl k < 16 := by unfold pl; omega
theorem at_00 : ∀ q, q < 16 → bl_at 0 (nI q) = 0 := by decide
theorem at_spn (m : Int64) {q : Nat} (hq : q < 16) : ∀ n, n ≤ 9 → bl_at (sp_n m n) (nI q) = if q % 4 < 3 ∧ q / 4 < 3 ∧ 3 * (q / 4) + q % 4 < n then bl_at m (nI (3 * (q / 4) + q % 4)) else 0
  | 0, _ => by rw [if_neg (fun z => absurd z.2.2 (by omega))]; exact at_00 q hq
  | n + 1, hn => by
    have ih := at_spn m hq n (by omega)
    show bl_at (bl_put (sp_n m n) (bl_pl (nI n)) (bl_at m (nI n))) (nI q) = _
    rw [pl_eq n (by omega), pb_at_put _ (pl_lt (by omega)) hq, ih]
    by_cases e : q = pl n
    · have e1 : 3 * (q / 4) + q % 4 = n ∧ q % 4 < 3 ∧ q / 4 < 3 := by unfold pl at e; omega
      rw [if_pos e, if_pos ⟨e1.2.1, e1.2.2, by omega⟩, e1.1, pb_at15 _ (by omega)]
    · have e1 : ¬ (q % 4 < 3 ∧ q / 4 < 3 ∧ 3 * (q / 4) + q % 4 = n) := fun z => e (by unfold pl; omega)
      rw [if_neg e]
      by_cases c : q % 4 < 3 ∧ q / 4 < 3 ∧ 3 * (q / 4) + q % 4 < n
      · rw [if_pos c, if_pos ⟨c.1, c.2.1, by omega⟩]
      · rw [if_neg c, if_neg (fun z => c ⟨z.1, z.2.1, by omega⟩)]
theorem par15 (v : Int64) {j : Nat} (hj : j < 8) : bl_par v (nI j) &&& 15 = bl_par v (nI j) := by
  rw [ln_par v hj]
  have h := fun i hi => pb_at15 v (ln_lt hj (i := i) hi)
  apply Int32.toBitVec_inj.mp
  apply BitVec.eq_of_getLsbD_eq
  intro t ht
  simp only [Int32.toBitVec_and, Int32.toBitVec_xor, BitVec.getLsbD_and, BitVec.getLsbD_xor, pb_15, pb_at v (ln_lt hj (show 0 < 4 by decide)), pb_at v (ln_lt hj (show 1 < 4 by decide)), pb_at v (ln_lt hj (show 2 < 4 by decide)), pb_at v (ln_lt hj (show 3 < 4 by decide))]
  by_cases c : t < 4 <;> simp [c]
/-- the exclusive or of a row's (of a column's) three -/
def xr (v : Int64) (r : Nat) : Int32 := bl_at v (nI (4 * r)) ^^^ bl_at v (nI (4 * r + 1)) ^^^ bl_at v (nI (4 * r + 2))
def xc (v : Int64) (c : Nat) : Int32 := bl_at v (nI c) ^^^ bl_at v (nI (4 + c)) ^^^ bl_at v (nI (8 + c))
theorem at_spr {v : Int64} (hz : ∀ r, r < 3 → bl_at v (nI (4 * r + 3)) = 0) : ∀ n, n ≤ 3 → ∀ q, q < 16 → bl_at (sp_r v n) (nI q) = if q % 4 = 3 ∧ q / 4 < n then xr v (q / 4) else bl_at v (nI q)
  | 0, _, q, hq => by rw [if_neg (fun z => absurd z.2 (by omega))]; rfl
  | n + 1, hn, q, hq => by
    have ih := at_spr hz n (by omega)
    show bl_at (bl_put (sp_r v n) (4 * nI n + 3) (bl_par (sp_r v n) (nI n))) (nI q) = _
    rw [(by decide : ∀ n, n < 3 → 4 * nI n + 3 = nI (4 * n + 3)) n (by omega), pb_at_put _ (show 4 * n + 3 < 16 by omega) hq, ih q hq, par15 _ (show n < 8 by omega)]
    by_cases e : q = 4 * n + 3
    · rw [if_pos e, if_pos ⟨by omega, by omega⟩, ln_par _ (show n < 8 by omega), show q / 4 = n by omega]
      have l : ∀ i, ln n i = 4 * n + i := fun i => by unfold ln; rw [if_pos (by omega)]
      rw [l, l, l, l, ih _ (by omega), ih _ (by omega), ih _ (by omega), ih _ (by omega), if_neg (fun z => absurd z.1 (by omega)), if_neg (fun z => absurd z.1 (by omega)), if_neg (fun z => absurd z.1 (by omega)), if_neg (fun z => absurd z.2 (by omega)), hz n (by omega), Int32.xor_zero]
      rfl
    · rw [if_neg e]
      by_cases c : q % 4 = 3 ∧ q / 4 < n
      · rw [if_pos c, if_pos ⟨c.1, by omega⟩]
      · rw [if_neg c, if_neg (fun z => c ⟨z.1, by omega⟩)]
theorem at_spc {v : Int64} (hz : ∀ c, c < 4 → bl_at v (nI (12 + c)) = 0) : ∀ n, n ≤ 4 → ∀ q, q < 16 → bl_at (sp_c v n) (nI q) = if q / 4 = 3 ∧ q % 4 < n then xc v (q % 4) else bl_at v (nI q)
  | 0, _, q, hq => by rw [if_neg (fun z => absurd z.2 (by omega))]; rfl
  | n + 1, hn, q, hq => by
    have ih := at_spc hz n (by omega)
    show bl_at (bl_put (sp_c v n) (12 + nI n) (bl_par (sp_c v n) (4 + nI n))) (nI q) = _
    rw [(by decide : ∀ n, n < 4 → 12 + nI n = nI (12 + n)) n (by omega), (by decide : ∀ n, n < 4 → 4 + nI n = nI (4 + n)) n (by omega), pb_at_put _ (show 12 + n < 16 by omega) hq, ih q hq, par15 _ (show 4 + n < 8 by omega)]
    by_cases e : q = 12 + n
    · rw [if_pos e, if_pos ⟨by omega, by omega⟩, ln_par _ (show 4 + n < 8 by omega), show q % 4 = n by omega]
      have l : ∀ i, ln (4 + n) i = 4 * i + n := fun i => by unfold ln; rw [if_neg (by omega)]; omega
      rw [l, l, l, l, ih _ (by omega), ih _ (by omega), ih _ (by omega), ih _ (by omega), if_neg (fun z => absurd z.1 (by omega)), if_neg (fun z => absurd z.1 (by omega)), if_neg (fun z => absurd z.1 (by omega)), if_neg (fun z => absurd z.2 (by omega)), show 4 * 3 + n = 12 + n by omega, hz n (by omega), Int32.xor_zero, show 4 * 0 + n = n by omega, show 4 * 1 + n = 4 + n by omega, show 4 * 2 + n = 8 + n by omega]
      rfl
    · rw [if_neg e]
      by_cases c : q / 4 = 3 ∧ q % 4 < n
      · rw [if_pos c, if_pos ⟨c.1, by omega⟩]
      · rw [if_neg c, if_neg (fun z => c ⟨z.1, by omega⟩)]
/-- the nibbles of what was spread -/
theorem at_spread (m : Int64) : (∀ r c, r < 3 → c < 3 → bl_at (bl_spread m) (nI (4 * r + c)) = bl_at m (nI (3 * r + c))) ∧
    (∀ r, r < 3 → bl_at (bl_spread m) (nI (4 * r + 3)) = bl_at m (nI (3 * r)) ^^^ bl_at m (nI (3 * r + 1)) ^^^ bl_at m (nI (3 * r + 2))) ∧
    (∀ c, c < 3 → bl_at (bl_spread m) (nI (12 + c)) = bl_at m (nI c) ^^^ bl_at m (nI (3 + c)) ^^^ bl_at m (nI (6 + c))) ∧
    bl_at (bl_spread m) (nI 15) = bl_at (bl_spread m) (nI 3) ^^^ bl_at (bl_spread m) (nI 7) ^^^ bl_at (bl_spread m) (nI 11) := by
  have n9 : ∀ q, q < 16 → bl_at (sp_n m 9) (nI q) = if q % 4 < 3 ∧ q / 4 < 3 ∧ 3 * (q / 4) + q % 4 < 9 then bl_at m (nI (3 * (q / 4) + q % 4)) else 0 := fun q hq => at_spn m hq 9 (Nat.le_refl _)
  have r3 : ∀ q, q < 16 → bl_at (sp_r (sp_n m 9) 3) (nI q) = if q % 4 = 3 ∧ q / 4 < 3 then xr (sp_n m 9) (q / 4) else bl_at (sp_n m 9) (nI q) := at_spr (fun r hr => by rw [n9 _ (by omega), if_neg (fun z => absurd z.1 (by omega))]) 3 (Nat.le_refl _)
  have z12 : ∀ c, c < 4 → bl_at (sp_r (sp_n m 9) 3) (nI (12 + c)) = 0 := fun c hc => by
    rw [r3 _ (by omega), if_neg (fun z => absurd z.2 (by omega)), n9 _ (by omega), if_neg (fun z => absurd z.2.1 (by omega))]
  have c4 : ∀ q, q < 16 → bl_at (bl_spread m) (nI q) = if q / 4 = 3 ∧ q % 4 < 4 then xc (sp_r (sp_n m 9) 3) (q % 4) else bl_at (sp_r (sp_n m 9) 3) (nI q) := at_spc z12 4 (Nat.le_refl _)
  have d1 : ∀ r c, r < 3 → c < 3 → bl_at (sp_r (sp_n m 9) 3) (nI (4 * r + c)) = bl_at m (nI (3 * r + c)) := fun r c hr hc => by
    rw [r3 _ (by omega), if_neg (fun z => absurd z.1 (by omega)), n9 _ (by omega), if_pos ⟨by omega, by omega, by omega⟩, show 3 * ((4 * r + c) / 4) + (4 * r + c) % 4 = 3 * r + c by omega]
  have d0 : ∀ r c, r < 3 → c < 3 → bl_at (sp_n m 9) (nI (4 * r + c)) = bl_at m (nI (3 * r + c)) := fun r c hr hc => by
    rw [n9 _ (by omega), if_pos ⟨by omega, by omega, by omega⟩, show 3 * ((4 * r + c) / 4) + (4 * r + c) % 4 = 3 * r + c by omega]
  have d3 : ∀ r, r < 3 → bl_at (sp_r (sp_n m 9) 3) (nI (4 * r + 3)) = bl_at m (nI (3 * r)) ^^^ bl_at m (nI (3 * r + 1)) ^^^ bl_at m (nI (3 * r + 2)) := fun r hr => by
    rw [r3 _ (by omega), if_pos ⟨by omega, by omega⟩, show (4 * r + 3) / 4 = r by omega]
    show bl_at _ _ ^^^ bl_at _ _ ^^^ bl_at _ _ = _
    have q0 := d0 r 0 hr (by decide)
    rw [Nat.add_zero, Nat.add_zero] at q0
    rw [q0, d0 r 1 hr (by decide), d0 r 2 hr (by decide)]
  refine ⟨fun r c hr hc => ?_, fun r hr => ?_, fun c hc => ?_, ?_⟩
  · rw [c4 _ (by omega), if_neg (fun z => absurd z.1 (by omega)), d1 r c hr hc]
  · rw [c4 _ (by omega), if_neg (fun z => absurd z.1 (by omega)), d3 r hr]
  · rw [c4 _ (by omega), if_pos ⟨by omega, by omega⟩, show (12 + c) % 4 = c by omega]
    show bl_at _ _ ^^^ bl_at _ _ ^^^ bl_at _ _ = _
    have q0 := d1 0 c (by decide) hc
    simp only [Nat.mul_zero, Nat.zero_add] at q0
    rw [q0, d1 1 c (by decide) hc, d1 2 c (by decide) hc]
  · rw [c4 15 (by decide), if_pos (by decide), c4 3 (by decide), if_neg (by decide), c4 7 (by decide), if_neg (by decide), c4 11 (by decide), if_neg (by decide)]
    rfl
theorem bxor9 : ∀ a b c d e f g h i : Bool, (((a ^^ b) ^^ c) ^^ ((a ^^ b) ^^ c)) = false ∧ (((((a ^^ d) ^^ g) ^^ ((b ^^ e) ^^ h)) ^^ ((c ^^ f) ^^ i)) ^^ ((((a ^^ b) ^^ c) ^^ ((d ^^ e) ^^ f)) ^^ ((g ^^ h) ^^ i))) = false ∧ (((a ^^ b) ^^ c) ^^ ((a ^^ b) ^^ c)) = false := by decide
theorem x33 (a b c : Int32) : a ^^^ b ^^^ c ^^^ (a ^^^ b ^^^ c) = 0 := by
  apply Int32.toBitVec_inj.mp
  apply BitVec.eq_of_getLsbD_eq
  intro t ht
  simp only [Int32.toBitVec_xor, BitVec.getLsbD_xor, Int32.toBitVec_zero, BitVec.getLsbD_zero]
  exact (bxor9 _ _ _ false false false false false false).1
theorem x99 (a b c d e f g h i : Int32) : (a ^^^ d ^^^ g) ^^^ (b ^^^ e ^^^ h) ^^^ (c ^^^ f ^^^ i) ^^^ ((a ^^^ b ^^^ c) ^^^ (d ^^^ e ^^^ f) ^^^ (g ^^^ h ^^^ i)) = 0 := by
  apply Int32.toBitVec_inj.mp
  apply BitVec.eq_of_getLsbD_eq
  intro t ht
  simp only [Int32.toBitVec_xor, BitVec.getLsbD_xor, Int32.toBitVec_zero, BitVec.getLsbD_zero]
  exact (bxor9 _ _ _ _ _ _ _ _ _).2.1
theorem ev_spread (m : Int64) : bl_ev (bl_spread m) := by
  obtain ⟨s1, s2, s3, s4⟩ := at_spread m
  have row : ∀ r, r < 3 → bl_par (bl_spread m) (nI r) = 0 := fun r hr => by
    rw [ln_par _ (show r < 8 by omega)]
    have l : ∀ i, ln r i = 4 * r + i := fun i => by unfold ln; rw [if_pos (by omega)]
    rw [l, l, l, l, s1 r 0 hr (by decide), s1 r 1 hr (by decide), s1 r 2 hr (by decide), s2 r hr, Nat.add_zero]
    exact x33 _ _ _
  have col : ∀ c, c < 3 → bl_par (bl_spread m) (nI (4 + c)) = 0 := fun c hc => by
    rw [ln_par _ (show 4 + c < 8 by omega)]
    have l : ∀ i, ln (4 + c) i = 4 * i + c := fun i => by unfold ln; rw [if_neg (by omega)]; omega
    rw [l, l, l, l, s1 0 c (by decide) hc, s1 1 c (by decide) hc, s1 2 c (by decide) hc, show 4 * 3 + c = 12 + c by omega, s3 c hc, show 3 * 0 + c = c by omega, show 3 * 1 + c = 3 + c by omega, show 3 * 2 + c = 6 + c by omega]
    exact x33 _ _ _
  intro j hj
  match j, hj with
  | 0, _ => exact row 0 (by decide)
  | 1, _ => exact row 1 (by decide)
  | 2, _ => exact row 2 (by decide)
  | 3, _ =>
    rw [ln_par _ (by decide)]
    show bl_at _ (nI 12) ^^^ bl_at _ (nI 13) ^^^ bl_at _ (nI 14) ^^^ bl_at _ (nI 15) = 0
    rw [s4]
    have u0 : bl_at (bl_spread m) (nI 12) = bl_at m (nI 0) ^^^ bl_at m (nI 3) ^^^ bl_at m (nI 6) := s3 0 (by decide)
    have u1 : bl_at (bl_spread m) (nI 13) = bl_at m (nI 1) ^^^ bl_at m (nI 4) ^^^ bl_at m (nI 7) := s3 1 (by decide)
    have u2 : bl_at (bl_spread m) (nI 14) = bl_at m (nI 2) ^^^ bl_at m (nI 5) ^^^ bl_at m (nI 8) := s3 2 (by decide)
    have t0 : bl_at (bl_spread m) (nI 3) = bl_at m (nI 0) ^^^ bl_at m (nI 1) ^^^ bl_at m (nI 2) := s2 0 (by decide)
    have t1 : bl_at (bl_spread m) (nI 7) = bl_at m (nI 3) ^^^ bl_at m (nI 4) ^^^ bl_at m (nI 5) := s2 1 (by decide)
    have t2 : bl_at (bl_spread m) (nI 11) = bl_at m (nI 6) ^^^ bl_at m (nI 7) ^^^ bl_at m (nI 8) := s2 2 (by decide)
    rw [u0, u1, u2, t0, t1, t2]
    exact x99 _ _ _ _ _ _ _ _ _
  | 4, _ => exact col 0 (by decide)
  | 5, _ => exact col 1 (by decide)
  | 6, _ => exact col 2 (by decide)
  | 7, _ =>
    rw [ln_par _ (by decide)]
    show bl_at _ (nI 3) ^^^ bl_at _ (nI 7) ^^^ bl_at _ (nI 11) ^^^ bl_at _ (nI 15) = 0
    rw [s4]
    exact x33 _ _ _
-- gathering
theorem ga_bit (v : Int64) : ∀ n, n ≤ 9 → ∀ i, i < 64 → (ga_n v n).toBitVec.getLsbD i = if i < 4 * n then (bl_at v (nI (pl (i / 4)))).toBitVec.getLsbD (i % 4) else false
  | 0, _, i, hi => by
    rw [if_neg (by omega)]
    show (0#64).getLsbD i = false
    rw [BitVec.getLsbD_zero]
  | n + 1, hn, i, hi => by
    show (ga_n v n ||| mi_lshl (bl_at v (bl_pl (nI n))).toInt64 (4 * nI n)).toBitVec.getLsbD i = _
    rw [Int64.toBitVec_or, BitVec.getLsbD_or, ga_bit v n (by omega) i hi, pb_lshl _ (show n < 16 by omega), pl_eq n (by omega), Int32.toBitVec_toInt64, BitVec.getLsbD_signExtend]
    have hm : (bl_at v (nI (pl n))).toBitVec.msb = false := by
      rw [BitVec.msb_eq_getLsbD_last, pb_at _ (pl_lt (by omega))]
      simp
    by_cases c1 : i < 4 * n
    · rw [if_pos c1, if_pos (show i < 4 * (n + 1) by omega)]
      simp [c1]
    · rw [if_neg c1]
      by_cases c2 : i < 4 * (n + 1)
      · rw [if_pos c2, show i / 4 = n by omega, show i % 4 = i - 4 * n by omega]
        simp [c1, hi, show i - 4 * n < 32 by omega, show i - 4 * n < 64 by omega]
      · rw [if_neg c2]
        by_cases c3 : i - 4 * n < 32
        · have hz : (bl_at v (nI (pl n))).toBitVec.getLsbD (i - 4 * n) = false := by
            rw [pb_at _ (pl_lt (by omega))]
            simp [show ¬ i - 4 * n < 4 by omega]
          rw [if_pos c3, hz]
          simp
        · simp [c1, hi, c3, hm]
theorem ga_spread (m : Int64) {i : Nat} (hi : i < 64) : (ga_n (bl_spread m) 9).toBitVec.getLsbD i = (decide (i < 36) && m.toBitVec.getLsbD i) := by
  rw [ga_bit _ 9 (Nat.le_refl _) i hi]
  by_cases c : i < 36
  · rw [if_pos c]
    have := (at_spread m).1 (i / 4 / 3) (i / 4 % 3) (by omega) (by omega)
    rw [show pl (i / 4) = 4 * (i / 4 / 3) + i / 4 % 3 by unfold pl; omega, this, show 3 * (i / 4 / 3) + i / 4 % 3 = i / 4 by omega, pb_at _ (by omega), show 4 * (i / 4) + i % 4 = i by omega]
    simp [c, show i % 4 < 4 by omega]
  · rw [if_neg c]
    simp [c]
/-- a number of nine nibbles -/
def okm (m : Int64) : Prop := ∀ i, i < 64 → 36 ≤ i → m.toBitVec.getLsbD i = false
theorem ms_ok : ((List.range 240).all fun s => decide (0 ≤ ms_n (nI s) 9 ∧ ms_n (nI s) 9 < 68719476736)) = true := by decide +kernel
theorem okm_of {m : Int64} (h0 : 0 ≤ m) (h1 : m < 68719476736) : okm m := by
  intro i hi h36
  have a0 := Int64.le_iff_toInt_le.mp h0
  have a1 := Int64.lt_iff_toInt_lt.mp h1
  rw [show (0 : Int64).toInt = 0 by decide] at a0
  rw [show (68719476736 : Int64).toInt = 68719476736 by decide] at a1
  have hn : m.toBitVec.toNat < 2 ^ 36 := by
    have := BitVec.toInt_eq_toNat_of_msb (x := m.toBitVec) (by
      by_cases hm : m.toBitVec.msb = true
      · have := BitVec.toInt_neg_of_msb_true hm
        exact absurd a0 (by show ¬ (0 : Int) ≤ m.toBitVec.toInt; omega)
      · simpa using hm)
    have e : m.toInt = m.toBitVec.toInt := rfl
    omega
  rw [← BitVec.testBit_toNat]
  exact Nat.testBit_lt_two_pow (Nat.lt_of_lt_of_le hn (Nat.pow_le_pow_right (by decide) h36))
theorem mix_back {s : Nat} (hs : s < 240) {m : Int64} (hm : okm m) : se_mix (nI s) (ga_n (bl_spread (se_mix (nI s) m)) 9) = m := by
  have h := of_decide_eq_true (List.all_eq_true.mp ms_ok s (List.mem_range.mpr hs))
  have hM := okm_of h.1 h.2
  apply Int64.toBitVec_inj.mp
  apply BitVec.eq_of_getLsbD_eq
  intro i hi
  unfold se_mix
  rw [Int64.toBitVec_xor, BitVec.getLsbD_xor, ga_spread _ hi, Int64.toBitVec_xor, BitVec.getLsbD_xor]
  by_cases c : i < 36
  · simp [c]
  · rw [hm i hi (by omega), hM i hi (by omega)]
    simp [c]
