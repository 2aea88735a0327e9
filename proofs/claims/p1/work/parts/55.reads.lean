-- many READS
theorem ck_tv {x : UInt64} {k i f : Nat} (hx : ck x k) (hi : i < 240) (m : Nat) : f + m ≤ 240 → k + 58 * m < 8000 → ck (tv x i f m).1 (k + 58 * m) ∧ (0 < m → zv x < zv (tv x i f m).1) ∧ (∀ q, q < m → dr_okc (tv x i f q).1 (tv x i f q).2 (f + q)) := by
  induction m with
  | zero => exact fun _ _ => ⟨hx, fun h => absurd h (by omega), fun q h => absurd h (by omega)⟩
  | succ m ih =>
    intro h1 h2
    obtain ⟨p1, p2, p3⟩ := ih (by omega) (by omega)
    have ht : (tv x i f m).2 < 240 := tv_lt hi m (by omega)
    have hc := ck_cb p1 ht (show f + m < 240 by omega) (by omega)
    have e : (tv x i f (m + 1)).1 = dr_cb (tv x i f m).1 (tv x i f m).2 (f + m) := rfl
    rw [e]
    obtain ⟨c1, c2, c3⟩ := hc
    refine ⟨by rw [show k + 58 * (m + 1) = k + 58 * m + 58 by omega]; exact c2, fun _ => ?_, fun q hq => ?_⟩
    · by_cases e : m = 0
      · have e2 : (tv x i f m).1 = x := by rw [e]; rfl
        rw [e2] at c3 ⊢
        exact c3
      · exact Int.lt_trans (p2 (by omega)) c3
    · by_cases e : q = m
      · rw [e]
        exact c1
      · exact p3 q (by omega)
theorem ck_sub {x y : UInt64} {k j : Nat} (hx : ck x k) (hy : ck y j) (h : zv x < zv y) : vf_n64 (FP.dsub y x) ∧ FP.dcmp (FP.dsub y x) FP.dconst0 = some .gt := by
  have hn := sub_ne hy.1 hx.1
  have f1 : FP.Core.DFin 1 := (FP.Core.fin_bits 1).mpr (by decide)
  have z1 : zv 1 = 1 := by decide +kernel
  have g := sub_ge (V := 1) hy.1 hx.1 (fin_ne f1) (by rw [z1]; omega)
  rw [z1] at g
  refine ⟨n64_of hn, FP.Core.dcmp_gt.mpr ⟨hn, fin_ne ck_0.1, ?_⟩⟩
  have z0 := ck_0.2
  show zv FP.dconst0 < zv (FP.dsub y x)
  have : zv FP.dconst0 ≤ 0 := by have := z0.2; omega
  omega
theorem ck_cmp {x y : UInt64} {k j : Nat} (hx : ck x k) (hy : ck y j) (h : zv x ≤ zv y) : ¬ Op.cmpValue (FP.dcmp y x) .g < 0 := by
  rcases FP.Core.dcmp_ge.mpr ⟨fin_ne hy.1, fin_ne hx.1, h⟩ with e | e
  · rw [show FP.dcmp y x = some .gt from e]; decide
  · rw [show FP.dcmp y x = some .eq from e]; decide
