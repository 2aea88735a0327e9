-- lines of a BLOCK, and what MENDING makes of one that was spread and erased
theorem x4 {a b c d : Int32} (h : a ^^^ b ^^^ c ^^^ d = 0) : (0 ^^^ b ^^^ c ^^^ d = a) ∧ (a ^^^ 0 ^^^ c ^^^ d = b) ∧ (a ^^^ b ^^^ 0 ^^^ d = c) ∧ (a ^^^ b ^^^ c ^^^ 0 = d) := by
  have hb : ∀ j, (((a.toBitVec.getLsbD j ^^ b.toBitVec.getLsbD j) ^^ c.toBitVec.getLsbD j) ^^ d.toBitVec.getLsbD j) = false := by
    intro j
    have := congrArg (fun x : Int32 => x.toBitVec.getLsbD j) h
    simpa only [Int32.toBitVec_xor, BitVec.getLsbD_xor, Int32.toBitVec_zero, BitVec.getLsbD_zero] using this
  have hB : ∀ p q r s : Bool, (((p ^^ q) ^^ r) ^^ s) = false → ((((false ^^ q) ^^ r) ^^ s) = p) ∧ ((((p ^^ false) ^^ r) ^^ s) = q) ∧ ((((p ^^ q) ^^ false) ^^ s) = r) ∧ ((((p ^^ q) ^^ r) ^^ false) = s) := by decide
  refine ⟨?_, ?_, ?_, ?_⟩ <;> (apply Int32.toBitVec_inj.mp; apply BitVec.eq_of_getLsbD_eq; intro j hj; simp only [Int32.toBitVec_xor, BitVec.getLsbD_xor, Int32.toBitVec_zero, BitVec.getLsbD_zero])
  · exact (hB _ _ _ _ (hb j)).1
  · exact (hB _ _ _ _ (hb j)).2.1
  · exact (hB _ _ _ _ (hb j)).2.2.1
  · exact (hB _ _ _ _ (hb j)).2.2.2
/-- the place i of the line j -/
def ln (j i : Nat) : Nat := if j < 4 then 4 * j + i else 4 * i + (j - 4)
theorem ln_lt {j i : Nat} (hj : j < 8) (hi : i < 4) : ln j i < 16 := by
  unfold ln
  split <;> omega
theorem ln_par (v : Int64) {j : Nat} (hj : j < 8) : bl_par v (nI j) = bl_at v (nI (ln j 0)) ^^^ bl_at v (nI (ln j 1)) ^^^ bl_at v (nI (ln j 2)) ^^^ bl_at v (nI (ln j 3)) := by
  unfold bl_par bl_px ln
  by_cases h : j < 4
  · rw [if_pos ((by decide : ∀ j, j < 4 → nI j < 4) j h), if_pos h, if_pos h, if_pos h, if_pos h,
      (by decide : ∀ j, j < 4 → 4 * nI j + 0 * 1 = nI (4 * j + 0)) j h, (by decide : ∀ j, j < 4 → 4 * nI j + 1 * 1 = nI (4 * j + 1)) j h, (by decide : ∀ j, j < 4 → 4 * nI j + 2 * 1 = nI (4 * j + 2)) j h, (by decide : ∀ j, j < 4 → 4 * nI j + 3 * 1 = nI (4 * j + 3)) j h, Int32.zero_xor]
  · have h4 : 4 ≤ j := by omega
    rw [if_neg ((by decide : ∀ j, j < 8 → 4 ≤ j → ¬ nI j < 4) j hj h4), if_neg h, if_neg h, if_neg h, if_neg h,
      (by decide : ∀ j, j < 8 → 4 ≤ j → nI j - 4 + 0 * 4 = nI (4 * 0 + (j - 4))) j hj h4, (by decide : ∀ j, j < 8 → 4 ≤ j → nI j - 4 + 1 * 4 = nI (4 * 1 + (j - 4))) j hj h4, (by decide : ∀ j, j < 8 → 4 ≤ j → nI j - 4 + 2 * 4 = nI (4 * 2 + (j - 4))) j hj h4, (by decide : ∀ j, j < 8 → 4 ≤ j → nI j - 4 + 3 * 4 = nI (4 * 3 + (j - 4))) j hj h4, Int32.zero_xor]
theorem isE01 (e p : Int32) : bl_isE e p = 0 ∨ bl_isE e p = 1 := by
  unfold bl_isE
  split
  · exact Or.inr rfl
  · exact Or.inl rfl
theorem at_clr (e : Int32) (v : Int64) {k : Nat} (hk : k < 16) : ∀ n, n ≤ 16 → bl_at (bl_clr e v n) (nI k) = if k < n ∧ bl_isE e (nI k) = 1 then 0 else bl_at v (nI k)
  | 0, _ => by rw [if_neg (fun z => absurd z.1 (by omega))]; rfl
  | n + 1, hn => by
    unfold bl_clr
    have ih := at_clr e v hk n (by omega)
    by_cases c : bl_isE e (nI n) = 1
    · rw [if_pos c, pb_at_put _ (by omega) hk, ih]
      by_cases ek : k = n
      · rw [if_pos ek, if_pos ⟨by omega, by rw [ek]; exact c⟩]
        decide
      · rw [if_neg ek]
        by_cases c2 : k < n ∧ bl_isE e (nI k) = 1
        · rw [if_pos c2, if_pos ⟨by omega, c2.2⟩]
        · rw [if_neg c2, if_neg (fun z => c2 ⟨by omega, z.2⟩)]
    · rw [if_neg c, ih]
      by_cases ek : k = n
      · subst ek
        rw [if_neg (fun z => absurd z.1 (by omega)), if_neg (fun z => c z.2)]
      · by_cases c2 : k < n ∧ bl_isE e (nI k) = 1
        · rw [if_pos c2, if_pos ⟨by omega, c2.2⟩]
        · rw [if_neg c2, if_neg (fun z => c2 ⟨by omega, z.2⟩)]
theorem at_clr16 (e : Int32) (v : Int64) {k : Nat} (hk : k < 16) : bl_at (bl_clr e v 16) (nI k) = if bl_isE e (nI k) = 1 then 0 else bl_at v (nI k) := by
  rw [at_clr e v hk 16 (Nat.le_refl _)]
  by_cases c : bl_isE e (nI k) = 1
  · rw [if_pos ⟨hk, c⟩, if_pos c]
  · rw [if_neg (fun z => c z.2), if_neg c]
/-- the set of one PLACE -/
def pw (k : Nat) : Int32 := Int32.ofNat (2 ^ k)
theorem pw_bit {k : Nat} (hk : k < 16) (i : Nat) : (pw k).toBitVec.getLsbD i = decide (i = k) := by
  show (BitVec.ofNat 32 (2 ^ k)).getLsbD i = _
  rw [BitVec.getLsbD_ofNat, Nat.testBit_two_pow]
  by_cases e : i = k
  · subst e; simp [show i < 32 by omega]
  · simp [e, Ne.symm e]
theorem and_pw (e : Int32) {k : Nat} (hk : k < 16) : e &&& pw k = if bl_isE e (nI k) = 1 then pw k else 0 := by
  rw [pb_isE e hk]
  apply Int32.toBitVec_inj.mp
  apply BitVec.eq_of_getLsbD_eq
  intro i hi
  rw [Int32.toBitVec_and, BitVec.getLsbD_and, pw_bit hk]
  by_cases c : e.toBitVec.getLsbD k = true
  · rw [if_pos c, if_pos rfl, pw_bit hk]
    by_cases ei : i = k
    · subst ei; simp [c]
    · simp [ei]
  · rw [if_neg c, if_neg (by decide)]
    by_cases ei : i = k
    · subst ei; simp [c]
    · simp [ei]
theorem bl_M_or {j : Nat} (hj : j < 8) : bl_M j = pw (ln j 0) ||| pw (ln j 1) ||| pw (ln j 2) ||| pw (ln j 3) := (by decide : ∀ j, j < 8 → bl_M j = pw (ln j 0) ||| pw (ln j 1) ||| pw (ln j 2) ||| pw (ln j 3)) j hj
def bb (b : Bool) (k : Nat) : Int32 := if b then pw k else 0
theorem isE_bb (e : Int32) {k : Nat} (hk : k < 16) : e &&& pw k = bb (decide (bl_isE e (nI k) = 1)) k := by
  rw [and_pw e hk]
  unfold bb
  simp
theorem ln_tab0 : ((List.range 8).all fun j => [false, true].all fun a => [false, true].all fun b => [false, true].all fun c => [false, true].all fun d => (!(ib_bc (bb a (ln j 0) ||| bb b (ln j 1) ||| bb c (ln j 2) ||| bb d (ln j 3)) == 1) || ((a && !b && !c && !d) || (!a && b && !c && !d) || (!a && !b && c && !d) || (!a && !b && !c && d)))) = true := by decide +kernel
theorem mem_ft (a : Bool) : a ∈ [false, true] := by cases a <;> simp
theorem ln_tab (j : Nat) (hj : j < 8) (a b c d : Bool) (h : ib_bc (bb a (ln j 0) ||| bb b (ln j 1) ||| bb c (ln j 2) ||| bb d (ln j 3)) = 1) :
    (a = true ∧ b = false ∧ c = false ∧ d = false) ∨ (a = false ∧ b = true ∧ c = false ∧ d = false) ∨ (a = false ∧ b = false ∧ c = true ∧ d = false) ∨ (a = false ∧ b = false ∧ c = false ∧ d = true) := by
  have z := List.all_eq_true.mp (List.all_eq_true.mp (List.all_eq_true.mp (List.all_eq_true.mp (List.all_eq_true.mp ln_tab0 j (List.mem_range.mpr hj)) a (mem_ft a)) b (mem_ft b)) c (mem_ft c)) d (mem_ft d)
  rw [h] at z
  revert z
  cases a <;> cases b <;> cases c <;> cases d <;> simp
theorem pw_tz : ∀ k, k < 16 → bl_tz (pw k) = nI k := by decide +kernel
theorem i32_and_or (a b c : Int32) : a &&& (b ||| c) = (a &&& b) ||| (a &&& c) := by
  apply Int32.toBitVec_inj.mp
  apply BitVec.eq_of_getLsbD_eq
  intro i hi
  simp only [Int32.toBitVec_and, Int32.toBitVec_or, BitVec.getLsbD_and, BitVec.getLsbD_or, Bool.and_or_distrib_left]
theorem ln_mask (e : Int32) {j : Nat} (hj : j < 8) : e &&& bl_M j = bb (decide (bl_isE e (nI (ln j 0)) = 1)) (ln j 0) ||| bb (decide (bl_isE e (nI (ln j 1)) = 1)) (ln j 1) ||| bb (decide (bl_isE e (nI (ln j 2)) = 1)) (ln j 2) ||| bb (decide (bl_isE e (nI (ln j 3)) = 1)) (ln j 3) := by
  rw [bl_M_or hj, i32_and_or, i32_and_or, i32_and_or, isE_bb e (ln_lt hj (by decide)), isE_bb e (ln_lt hj (by decide)), isE_bb e (ln_lt hj (by decide)), isE_bb e (ln_lt hj (by decide))]
theorem isE_clr (e : Int32) {p k : Nat} (hp : p < 16) (hk : k < 16) : bl_isE (e &&& (pw p ^^^ -1)) (nI k) = if k = p then 0 else bl_isE e (nI k) := by
  rw [pb_isE _ hk, pb_isE _ hk, Int32.toBitVec_and, BitVec.getLsbD_and, Int32.toBitVec_xor, BitVec.getLsbD_xor, pw_bit hp]
  have e2 : (-1 : Int32).toBitVec.getLsbD k = true := by
    show (BitVec.ofInt 32 (-1)).getLsbD k = true
    rw [show BitVec.ofInt 32 (-1) = BitVec.allOnes 32 by decide, BitVec.getLsbD_allOnes]
    simp [show k < 32 by omega]
  rw [e2]
  by_cases ek : k = p
  · simp [ek]
  · simp [ek]
/-- all its lines have the exclusive or 0 -/
def bl_ev (W : Int64) : Prop := ∀ j, j < 8 → bl_par W (nI j) = 0
theorem mend_put {W : Int64} (hW : bl_ev W) {e : Int32} {j i : Nat} (hj : j < 8) (hi : i < 4) (h1 : bl_isE e (nI (ln j i)) = 1) (h0 : ∀ i', i' < 4 → i' ≠ i → bl_isE e (nI (ln j i')) = 0) :
    bl_put (bl_clr e W 16) (nI (ln j i)) (bl_par (bl_clr e W 16) (nI j)) = bl_clr (e &&& (pw (ln j i) ^^^ -1)) W 16 := by
  have hp := ln_lt hj hi
  have hx : bl_par (bl_clr e W 16) (nI j) = bl_at W (nI (ln j i)) := by
    have hz := hW j hj
    rw [ln_par _ hj] at hz ⊢
    have k0 : ∀ i', i' < 4 → i' ≠ i → bl_at (bl_clr e W 16) (nI (ln j i')) = bl_at W (nI (ln j i')) := fun i' a b => by
      rw [at_clr16 e W (ln_lt hj a), if_neg (by rw [h0 i' a b]; decide)]
    have k1 : bl_at (bl_clr e W 16) (nI (ln j i)) = 0 := by rw [at_clr16 e W hp, if_pos h1]
    obtain ⟨q0, q1, q2, q3⟩ := x4 hz
    match i, hi with
    | 0, _ => rw [k1, k0 1 (by decide) (by decide), k0 2 (by decide) (by decide), k0 3 (by decide) (by decide)]; exact q0
    | 1, _ => rw [k1, k0 0 (by decide) (by decide), k0 2 (by decide) (by decide), k0 3 (by decide) (by decide)]; exact q1
    | 2, _ => rw [k1, k0 0 (by decide) (by decide), k0 1 (by decide) (by decide), k0 3 (by decide) (by decide)]; exact q2
    | 3, _ => rw [k1, k0 0 (by decide) (by decide), k0 1 (by decide) (by decide), k0 2 (by decide) (by decide)]; exact q3
  rw [hx]
  refine pb_ext fun k hk => ?_
  rw [pb_at_put _ hp hk, at_clr16 e W hk, at_clr16 (e &&& _) W hk, isE_clr e hp hk]
  by_cases ek : k = ln j i
  · rw [if_pos ek, if_pos ek, if_neg (by decide), ek, pb_at15 _ hp]
  · rw [if_neg ek, if_neg ek]
theorem mend_ln {W : Int64} (hW : bl_ev W) {s : Int64 × Int32 × Int32} (hs : s.1 = bl_clr s.2.1 W 16) {j : Nat} (hj : j < 8) : (bl_ln s j).1 = bl_clr (bl_ln s j).2.1 W 16 := by
  unfold bl_ln
  by_cases c : ib_bc (s.2.1 &&& bl_M j) = 1
  · rw [if_pos c]
    have hm := ln_mask s.2.1 hj
    rw [hm] at c
    have f1 : ∀ i, i < 4 → ∀ b : Bool, decide (bl_isE s.2.1 (nI (ln j i)) = 1) = b → bl_isE s.2.1 (nI (ln j i)) = if b then 1 else 0 := fun i hi b hb => by
      rcases isE01 s.2.1 (nI (ln j i)) with h | h
      · rw [h] at hb ⊢
        subst hb
        decide
      · rw [h] at hb ⊢
        subst hb
        decide
    have fin : ∀ i, i < 4 → bl_isE s.2.1 (nI (ln j i)) = 1 → (∀ i', i' < 4 → i' ≠ i → bl_isE s.2.1 (nI (ln j i')) = 0) → s.2.1 &&& bl_M j = pw (ln j i) → (bl_put s.1 (bl_tz (s.2.1 &&& bl_M j)) (bl_par s.1 (nI j)), s.2.1 &&& (s.2.1 &&& bl_M j ^^^ -1), (1 : Int32)).1 = bl_clr (bl_put s.1 (bl_tz (s.2.1 &&& bl_M j)) (bl_par s.1 (nI j)), s.2.1 &&& (s.2.1 &&& bl_M j ^^^ -1), (1 : Int32)).2.1 W 16 := by
      intro i hi a1 a2 a3
      rw [a3, pw_tz _ (ln_lt hj hi)]
      show bl_put s.1 _ (bl_par s.1 _) = bl_clr (s.2.1 &&& (pw (ln j i) ^^^ -1)) W 16
      rw [hs]
      exact mend_put hW hj hi a1 a2
    rcases ln_tab j hj _ _ _ _ c with ⟨a, b, d, g⟩ | ⟨a, b, d, g⟩ | ⟨a, b, d, g⟩ | ⟨a, b, d, g⟩
    all_goals rw [a, b, d, g] at hm
    · exact fin 0 (by decide) (f1 0 (by decide) _ a) (fun i' h1 h2 => by
        match i', h1 with
        | 0, _ => exact absurd rfl h2
        | 1, _ => exact f1 1 (by decide) _ b
        | 2, _ => exact f1 2 (by decide) _ d
        | 3, _ => exact f1 3 (by decide) _ g) (hm.trans (by simp [bb]))
    · exact fin 1 (by decide) (f1 1 (by decide) _ b) (fun i' h1 h2 => by
        match i', h1 with
        | 0, _ => exact f1 0 (by decide) _ a
        | 1, _ => exact absurd rfl h2
        | 2, _ => exact f1 2 (by decide) _ d
        | 3, _ => exact f1 3 (by decide) _ g) (hm.trans (by simp [bb]))
    · exact fin 2 (by decide) (f1 2 (by decide) _ d) (fun i' h1 h2 => by
        match i', h1 with
        | 0, _ => exact f1 0 (by decide) _ a
        | 1, _ => exact f1 1 (by decide) _ b
        | 2, _ => exact absurd rfl h2
        | 3, _ => exact f1 3 (by decide) _ g) (hm.trans (by simp [bb]))
    · exact fin 3 (by decide) (f1 3 (by decide) _ g) (fun i' h1 h2 => by
        match i', h1 with
        | 0, _ => exact f1 0 (by decide) _ a
        | 1, _ => exact f1 1 (by decide) _ b
        | 2, _ => exact f1 2 (by decide) _ d
        | 3, _ => exact absurd rfl h2) (hm.trans (by simp [bb]))
  · rw [if_neg c]
    exact hs
theorem mend_rd {W : Int64} (hW : bl_ev W) {v : Int64} {e : Int32} (hs : v = bl_clr e W 16) : ∀ n, n ≤ 8 → (bl_rd v e n).1 = bl_clr (bl_rd v e n).2.1 W 16
  | 0, _ => hs
  | n + 1, h => mend_ln hW (mend_rd hW hs n (by omega)) (by omega)
theorem mend_fs {W : Int64} (hW : bl_ev W) : ∀ (n : Nat) {v : Int64} {e c : Int32}, v = bl_clr e W 16 → (bl_fs n v e c).1 = bl_clr (bl_fs n v e c).2 W 16
  | 0, v, e, c, hs => hs
  | n + 1, v, e, c, hs => by
    unfold bl_fs
    by_cases h : c = 0
    · rw [if_pos h]
      exact hs
    · rw [if_neg h]
      exact mend_fs hW n (mend_rd hW hs 8 (Nat.le_refl _))
theorem clr_0 (W : Int64) : bl_clr 0 W 16 = W := by
  refine pb_ext fun k hk => ?_
  rw [at_clr16 _ _ hk, pb_isE _ hk]
  simp
theorem ods_ev {W : Int64} (hW : bl_ev W) : bl_ods W [0, 1, 2, 3] (-1) = -1 := by
  have h0 : bl_par W 0 = 0 := hW 0 (by decide)
  have h1 : bl_par W 1 = 0 := hW 1 (by decide)
  have h2 : bl_par W 2 = 0 := hW 2 (by decide)
  have h3 : bl_par W 3 = 0 := hW 3 (by decide)
  simp [bl_ods, h0, h1, h2, h3]
/-- what MENDING does not leave ERASED comes out as it was spread -/
theorem mend_ok {W : Int64} (hW : bl_ev W) {e : Int32} (h : (bl_mend (bl_clr e W 16) e).2 = 0) : (bl_mend (bl_clr e W 16) e).1 = W := by
  have hf : (bl_fill (bl_clr e W 16) e).1 = bl_clr (bl_fill (bl_clr e W 16) e).2 W 16 := mend_fs hW 17 rfl
  unfold bl_mend at h ⊢
  by_cases c : (bl_fill (bl_clr e W 16) e).2 = 0
  · rw [if_pos c]
    show bl_m2 (bl_fill (bl_clr e W 16) e).1 = W
    rw [hf, c, clr_0]
    unfold bl_m2
    rw [if_pos (ods_ev hW)]
  · rw [if_neg c] at h
    exact absurd h c
theorem ev_even {W : Int64} (hW : bl_ev W) : bl_even W = 1 := if_pos ⟨hW 0 (by decide), hW 1 (by decide), hW 2 (by decide), hW 3 (by decide), hW 4 (by decide), hW 5 (by decide), hW 6 (by decide), hW 7 (by decide)⟩
