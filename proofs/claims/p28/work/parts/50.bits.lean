-- bits of the words: nibbles got and put
theorem pb_r : ∀ k, k < 16 → ((4 * nI k).toInt64.toUInt64 &&& Int64.toUInt64 63) = UInt64.ofNat (4 * k) := by decide
theorem pb_r2 : ∀ k, k < 16 → ((UInt64.ofNat (4 * k)).toBitVec % 64).toNat = 4 * k := by decide
theorem pb_l : ∀ k, k < 16 → (((4 * nI k).toInt64 &&& 63).toBitVec.smod 64).toNat = 4 * k := by decide
theorem pb_e : ∀ k, k < 16 → ((nI k).toUInt32 &&& Int32.toUInt32 31) = UInt32.ofNat k := by decide
theorem pb_e2 : ∀ k, k < 16 → ((UInt32.ofNat k).toBitVec % 32).toNat = k := by decide
theorem pb_15 (j : Nat) : (15 : Int32).toBitVec.getLsbD j = decide (j < 4) := by
  show (BitVec.ofNat 32 15).getLsbD j = _
  rw [BitVec.getLsbD_ofNat, show (15 : Nat) = 2 ^ 4 - 1 by decide, Nat.testBit_two_pow_sub_one]
  by_cases h : j < 4
  · simp [h, show j < 32 by omega]
  · simp [h]
theorem pb_lushr (v : Int64) {k : Nat} (hk : k < 16) (j : Nat) : (mi_lushr v (4 * nI k)).toBitVec.getLsbD j = v.toBitVec.getLsbD (4 * k + j) := by
  unfold mi_lushr
  rw [pb_r k hk]
  show (v.toUInt64 >>> UInt64.ofNat (4 * k)).toBitVec.getLsbD j = _
  rw [UInt64.toBitVec_shiftRight, BitVec.ushiftRight_eq', BitVec.getLsbD_ushiftRight, pb_r2 k hk]
  rfl
theorem pb_lshl (x : Int64) {k : Nat} (hk : k < 16) (i : Nat) : (mi_lshl x (4 * nI k)).toBitVec.getLsbD i = (decide (i < 64) && !decide (i < 4 * k) && x.toBitVec.getLsbD (i - 4 * k)) := by
  unfold mi_lshl
  rw [Int64.toBitVec_shiftLeft, BitVec.shiftLeft_eq', pb_l k hk, BitVec.getLsbD_shiftLeft]
theorem pb_at (v : Int64) {k : Nat} (hk : k < 16) (j : Nat) : (bl_at v (nI k)).toBitVec.getLsbD j = (decide (j < 4) && v.toBitVec.getLsbD (4 * k + j)) := by
  unfold bl_at
  rw [Int32.toBitVec_and, BitVec.getLsbD_and, pb_15, Int64.toBitVec_toInt32, BitVec.getLsbD_signExtend, pb_lushr v hk]
  by_cases h : j < 4
  · simp [h, show j < 32 by omega, show j < 64 by omega]
  · simp [h]
theorem pb_put (v : Int64) {p : Nat} (hp : p < 16) (x : Int32) {i : Nat} (hi : i < 64) : (bl_put v (nI p) x).toBitVec.getLsbD i = if 4 * p ≤ i ∧ i < 4 * p + 4 then x.toBitVec.getLsbD (i - 4 * p) else v.toBitVec.getLsbD i := by
  unfold bl_put
  rw [Int64.toBitVec_or, BitVec.getLsbD_or, Int64.toBitVec_and, BitVec.getLsbD_and, Int64.toBitVec_xor, BitVec.getLsbD_xor, pb_lshl _ hp, pb_lshl _ hp]
  have e1 : (15 : Int64).toBitVec.getLsbD (i - 4 * p) = decide (i - 4 * p < 4) := by
    show (BitVec.ofNat 64 15).getLsbD _ = _
    rw [BitVec.getLsbD_ofNat, show (15 : Nat) = 2 ^ 4 - 1 by decide, Nat.testBit_two_pow_sub_one]
    simp [show i - 4 * p < 64 by omega]
  have e2 : (-1 : Int64).toBitVec.getLsbD i = true := by
    show (BitVec.ofInt 64 (-1)).getLsbD i = true
    rw [show BitVec.ofInt 64 (-1) = BitVec.allOnes 64 by decide, BitVec.getLsbD_allOnes]
    simp [hi]
  have e3 : (x &&& 15).toInt64.toBitVec.getLsbD (i - 4 * p) = (decide (i - 4 * p < 4) && x.toBitVec.getLsbD (i - 4 * p)) := by
    rw [Int32.toBitVec_toInt64, BitVec.getLsbD_signExtend, Int32.toBitVec_and]
    have m : ((x.toBitVec &&& (15 : Int32).toBitVec).msb) = false := by
      rw [BitVec.msb_eq_getLsbD_last, BitVec.getLsbD_and, pb_15]
      simp
    by_cases h : i - 4 * p < 32
    · simp only [h, if_true, BitVec.getLsbD_and, pb_15]
      by_cases h4 : i - 4 * p < 4
      · simp [h4, show i - 4 * p < 64 by omega]
      · simp [h4]
    · simp [h, m, show ¬ i - 4 * p < 4 by omega]
      intro _ _
      decide
  rw [e1, e2, e3]
  by_cases h1 : i < 4 * p
  · simp [h1, hi, show ¬ 4 * p ≤ i by omega]
  · by_cases h2 : i - 4 * p < 4
    · simp [h1, h2, hi, show 4 * p ≤ i by omega, show i < 4 * p + 4 by omega]
    · simp [h1, h2, hi, show ¬ i < 4 * p + 4 by omega]
theorem pb_isE (e : Int32) {k : Nat} (hk : k < 16) : bl_isE e (nI k) = if e.toBitVec.getLsbD k = true then 1 else 0 := by
  unfold bl_isE
  have h : (mi_iushr e (nI k) &&& 1 = 1) ↔ e.toBitVec.getLsbD k = true := by
    have hb : ∀ j, (mi_iushr e (nI k)).toBitVec.getLsbD j = e.toBitVec.getLsbD (k + j) := by
      intro j
      unfold mi_iushr
      rw [pb_e k hk]
      show (e.toUInt32 >>> UInt32.ofNat k).toBitVec.getLsbD j = _
      rw [UInt32.toBitVec_shiftRight, BitVec.ushiftRight_eq', BitVec.getLsbD_ushiftRight, pb_e2 k hk]
      rfl
    have h1 : ∀ j, (1 : Int32).toBitVec.getLsbD j = decide (j = 0) := by
      intro j
      show (1#32).getLsbD j = _
      rw [BitVec.getLsbD_one]
      simp
    constructor
    · intro z
      have := congrArg (fun w : Int32 => w.toBitVec.getLsbD 0) z
      simp only [Int32.toBitVec_and, BitVec.getLsbD_and, hb, h1] at this
      simpa using this
    · intro z
      apply Int32.toBitVec_inj.mp
      apply BitVec.eq_of_getLsbD_eq
      intro j hj
      rw [Int32.toBitVec_and, BitVec.getLsbD_and, hb, h1]
      by_cases e0 : j = 0
      · subst e0; simpa using z
      · simp [e0]
  by_cases c : e.toBitVec.getLsbD k = true
  · rw [if_pos (h.mpr c), if_pos c]
  · rw [if_neg (fun z => c (h.mp z)), if_neg c]
theorem pb_ext {v w : Int64} (h : ∀ k, k < 16 → bl_at v (nI k) = bl_at w (nI k)) : v = w := by
  apply Int64.toBitVec_inj.mp
  apply BitVec.eq_of_getLsbD_eq
  intro i hi
  have h1 := congrArg (fun x : Int32 => x.toBitVec.getLsbD (i % 4)) (h (i / 4) (by omega))
  simp only [pb_at _ (show i / 4 < 16 by omega), show i % 4 < 4 from Nat.mod_lt _ (by decide), decide_true, Bool.true_and, Nat.div_add_mod] at h1
  exact h1
theorem pb_at_put (v : Int64) {p k : Nat} (hp : p < 16) (hk : k < 16) (x : Int32) : bl_at (bl_put v (nI p) x) (nI k) = if k = p then x &&& 15 else bl_at v (nI k) := by
  apply Int32.toBitVec_inj.mp
  apply BitVec.eq_of_getLsbD_eq
  intro j hj
  rw [pb_at _ hk]
  by_cases h4 : j < 4
  · rw [pb_put v hp x (by omega)]
    by_cases e : k = p
    · subst e
      rw [if_pos rfl, if_pos ⟨by omega, by omega⟩, Int32.toBitVec_and, BitVec.getLsbD_and, pb_15, show 4 * k + j - 4 * k = j by omega]
      simp [h4]
    · rw [if_neg e, if_neg (by omega), pb_at _ hk]
  · by_cases e : k = p
    · rw [if_pos e, Int32.toBitVec_and, BitVec.getLsbD_and, pb_15]
      simp [h4]
    · rw [if_neg e, pb_at _ hk]
      simp [h4]
theorem pb_at15 (v : Int64) {k : Nat} (hk : k < 16) : bl_at v (nI k) &&& 15 = bl_at v (nI k) := by
  apply Int32.toBitVec_inj.mp
  apply BitVec.eq_of_getLsbD_eq
  intro j hj
  rw [Int32.toBitVec_and, BitVec.getLsbD_and, pb_15, pb_at _ hk]
  by_cases h4 : j < 4 <;> simp [h4]
