-- how far the marks go
theorem i32_add {a b : Int32} (h1 : -100000 ≤ a.toInt + b.toInt) (h2 : a.toInt + b.toInt ≤ 100000) : (a + b).toInt = a.toInt + b.toInt := by
  rw [Int32.toInt_add]
  exact Int.bmod_eq_of_le (by omega) (by omega)
theorem i32_sub {a b : Int32} (h1 : -100000 ≤ a.toInt - b.toInt) (h2 : a.toInt - b.toInt ≤ 100000) : (a - b).toInt = a.toInt - b.toInt := by
  rw [Int32.toInt_sub]
  exact Int.bmod_eq_of_le (by omega) (by omega)
theorem mk_abs_i {x : Int32} (h1 : -1000 ≤ x.toInt) (h2 : x.toInt ≤ 1000) : (mk_abs x).toInt = if 0 ≤ x.toInt then x.toInt else -x.toInt := by
  unfold mk_abs
  have e0 : (0 : Int32).toInt = 0 := by decide
  by_cases c : 0 ≤ x
  · have c1 := Int32.le_iff_toInt_le.mp c
    rw [e0] at c1
    rw [if_pos c, if_pos c1]
  · have c1 : ¬ 0 ≤ x.toInt := fun z => c (Int32.le_iff_toInt_le.mpr (by rw [e0]; exact z))
    rw [if_neg c, if_neg c1, i32_sub (by rw [e0]; omega) (by rw [e0]; omega), e0]
    omega
theorem mk_max_i (x y : Int32) : (mk_max x y).toInt = if x.toInt < y.toInt then y.toInt else x.toInt := by
  unfold mk_max
  by_cases c : x < y
  · rw [if_pos c, if_pos (Int32.lt_iff_toInt_lt.mp c)]
  · rw [if_neg c, if_neg (fun z => c (Int32.lt_iff_toInt_lt.mpr z))]
/-- behind n bits -/
def mk_I (n : Nat) (s : mk_S) : Prop := (s.1.toInt = 1 ∨ s.1.toInt = -1) ∧ (-(n : Int) ≤ s.2.1.toInt ∧ s.2.1.toInt ≤ n) ∧ (0 ≤ s.2.2.1.toInt ∧ s.2.2.1.toInt ≤ n) ∧ (-s.2.2.2.toInt ≤ s.2.1.toInt ∧ s.2.1.toInt ≤ s.2.2.2.toInt) ∧ (0 ≤ s.2.2.2.toInt ∧ s.2.2.2.toInt ≤ n)
theorem mk_I_to {n : Nat} (hn : n < 500) {s : mk_S} (h : mk_I n s) {l t : Int32} (hl : l.toInt = 1 ∨ l.toInt = -1) (ht : t.toInt = s.2.2.1.toInt ∨ t.toInt = s.2.2.1.toInt + 1) : mk_I (n + 1) (l, s.2.1 + l, t, mk_max s.2.2.2 (mk_abs (s.2.1 + l))) := by
  obtain ⟨l0, d, t0, f⟩ := s
  obtain ⟨h1, h2, h3, h4, h5⟩ := h
  dsimp only at h1 h2 h3 h4 h5 ht ⊢
  have ed : (d + l).toInt = d.toInt + l.toInt := i32_add (by omega) (by omega)
  have ea : (mk_abs (d + l)).toInt = if 0 ≤ (d + l).toInt then (d + l).toInt else -(d + l).toInt := mk_abs_i (by omega) (by omega)
  have em := mk_max_i f (mk_abs (d + l))
  generalize mk_max f (mk_abs (d + l)) = M at em ⊢
  generalize mk_abs (d + l) = A at em ea
  generalize d + l = D at ea ed ⊢
  have hA : A.toInt = D.toInt ∧ 0 ≤ D.toInt ∨ A.toInt = -D.toInt ∧ D.toInt < 0 := by
    by_cases c : 0 ≤ D.toInt
    · rw [if_pos c] at ea; omega
    · rw [if_neg c] at ea; omega
  have hM : M.toInt = A.toInt ∧ f.toInt < A.toInt ∨ M.toInt = f.toInt ∧ A.toInt ≤ f.toInt := by
    by_cases c : f.toInt < A.toInt
    · rw [if_pos c] at em; omega
    · rw [if_neg c] at em; omega
  unfold mk_I
  dsimp only
  omega
theorem i32_neg {a : Int32} (h1 : a.toInt = 1 ∨ a.toInt = -1) : (-a).toInt = -a.toInt := by
  rw [Int32.toInt_neg]
  exact Int.bmod_eq_of_le (by omega) (by omega)
theorem mk_I_bit {n : Nat} (hn : n < 500) {s : mk_S} (h : mk_I n s) (bits m : Int32) : mk_I (n + 1) (mk_bit bits s m) := by
  unfold mk_bit
  by_cases c : bits &&& m = 0
  · rw [if_pos c]
    exact mk_I_to hn h h.1 (Or.inl rfl)
  · rw [if_neg c]
    have e := i32_neg h.1
    have h3 := h.2.2.1
    refine mk_I_to hn h (by have := h.1; omega) (Or.inr ?_)
    exact (i32_add (by rw [show (1 : Int32).toInt = 1 by decide]; omega) (by rw [show (1 : Int32).toInt = 1 by decide]; omega)).trans (by rw [show (1 : Int32).toInt = 1 by decide])
theorem mk_I_pb {n : Nat} (hn : n < 400) {s : mk_S} (h : mk_I n s) (bits : Int32) : ∀ k, k ≤ 8 → mk_I (n + k) (mk_pb bits s k)
  | 0, _ => h
  | k + 1, hk => mk_I_bit (by omega) (mk_I_pb hn h bits k (by omega)) _ _
theorem mk_I_all (v : Int64) : ∀ p, p ≤ 16 → mk_I (8 * p) (mk_all v p).1
  | 0, _ => by
    show mk_I 0 (1, 0, 0, 0)
    unfold mk_I
    decide
  | p + 1, hp => mk_I_pb (by omega) (mk_I_all v p (by omega)) _ 8 (Nat.le_refl _)
/-- TURNS, DSV and how far it was, as the document has them -/
theorem mk_fit (v : Int64) : (mk_all v 16).1.2.2.1 ≤ 128 ∧ (if 0 ≤ (mk_all v 16).1.2.1 then (mk_all v 16).1.2.1 else 0 - (mk_all v 16).1.2.1) ≤ (mk_all v 16).1.2.2.2 := by
  obtain ⟨h1, h2, h3, h4, h5⟩ := mk_I_all v 16 (Nat.le_refl _)
  refine ⟨Int32.le_iff_toInt_le.mpr (by rw [show (128 : Int32).toInt = 128 by decide]; omega), Int32.le_iff_toInt_le.mpr ?_⟩
  have ea := mk_abs_i (x := (mk_all v 16).1.2.1) (by omega) (by omega)
  unfold mk_abs at ea
  rw [ea]
  split <;> omega
