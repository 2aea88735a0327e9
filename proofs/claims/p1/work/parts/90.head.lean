-- what stands at the start
theorem hd_p {s : State} {args : Array Value} {ty : FieldType} (h : (Cond.arrayClass ty).before args s = true) : ∃ cA, ArrOfT s cA ty ∧ s.vm.findClass ("[" ++ ty.toString) = some cA := by
  obtain ⟨c, k, comp, h1, h2, h3⟩ := Cond.arrayClass_spec h
  exact ⟨c, fun n z => ⟨(fun k h => by cases h), k, h2, comp, h3⟩, h1⟩
theorem hd_o {s : State} {args : Array Value} {C : String} (h : (Cond.arrayOver (.object C)).before args s = true) : ∃ cA, ArrOfT s cA (.object C) ∧ va_RA s cA (.object C) := by
  obtain ⟨comp, c, k, h1, -, h3, h4, h5⟩ := Cond.arrayOver_spec h
  exact ⟨c, fun n z => ⟨(fun k h => by cases h), k, h3, comp, h4⟩, k, comp, h3, h4, h1, h5⟩
theorem hd_a {s : State} {args : Array Value} {ty : FieldType} (h : (Cond.arrayOver (.array ty)).before args s = true) : ∃ cA, ArrOfT s cA (.array ty) ∧ va_RA s cA (.array ty) := by
  obtain ⟨comp, c, k, -, -, h3, h4, h5⟩ := Stand.arrayOver_specB h
  exact ⟨c, fun n z => ⟨(fun k h => by cases h), k, h3, comp, h4⟩, h5⟩
/-- a static row of ints, as the Statement tells it -/
theorem hd_s {s : State} {args : Array Value} {C n : String} {vs : List Int32} {A : Nat → Prop} (hN : vs.length < 2 ^ 31) (hl : (Cond.laysStatic C n "[I").before args s = true) (hi : (Cond.initialized C).before args s = true) (harr : (Cond.arrayOf (.static C n "[I") .int).before args s = true) (hlen : (Cond.eq (.length (.static C n "[I")) (.int (Int32.ofNat vs.length))).before args s = true)
    (hel : ∀ j : Nat, j < vs.length → (Cond.eq (.elem (.static C n "[I") (.int (Int32.ofNat j))) (.int (vs.getD j 0))).before args s = true) (hA : ∀ a : Nat, a < s.heap.size → ¬ A a) : ∃ t : Nat, va_Z C n "[I" (.ref t) A s s.heap ∧ va_T .int t vs.length (fun j => .int (vs.getD j 0)) A s s.heap := by
  obtain ⟨t, h1, h2⟩ := va_Tof (f := fun j => .int (vs.getD j 0)) (A := A) hN harr (va_eqt hlen) (fun j hj => va_eqt (hel j hj)) hA
  exact ⟨t, va_Zof hl hi h1 hA, h2⟩
theorem hd_x {b L : Nat} {xs : Nat → Int32} {s : State} (h : va_X b L xs s s.heap) (hb : b < s.heap.size) : va_T .int b L (fun j => .int (xs j)) (fun q => s.heap.size ≤ q) s s.heap := by
  obtain ⟨scr, h1, h2, h3, h4, h5⟩ := h
  exact ⟨scr, h1, h2, h3, by omega, by rw [h4], h5, show ¬ s.heap.size ≤ b by omega⟩
theorem hd_cls {s : State} {args : Array Value} (hT : ∀ w ∈ pT, w.before args s = true) : ∃ D : va_G, ∀ (k : Nat) (q : vw_C), pC[k]? = some q → u_Kn s q.1 q.2.1 q.2.2 (D.1 k) (D.2 k) := by
  obtain ⟨c0, i0, k0⟩ := u_known (C := RX8) (T := TX8) (N := 10) hT inX8 (hT _ it_RX8)
  obtain ⟨c1, i1, k1⟩ := u_known (C := RX0) (T := TX0) (N := 2) hT inX0 (hT _ it_RX0)
  obtain ⟨c2, i2, k2⟩ := u_known (C := RX1) (T := TX1) (N := 2) hT inX1 (hT _ it_RX1)
  obtain ⟨c3, i3, k3⟩ := u_known (C := RX2) (T := TX2) (N := 5) hT inX2 (hT _ it_RX2)
  obtain ⟨c4, i4, k4⟩ := u_known (C := RX3) (T := TX3) (N := 2) hT inX3 (hT _ it_RX3)
  obtain ⟨c5, i5, k5⟩ := u_known (C := RX4) (T := TX4) (N := 4) hT inX4 (hT _ it_RX4)
  obtain ⟨c6, i6, k6⟩ := u_known (C := RX5) (T := TX5) (N := 10) hT inX5 (hT _ it_RX5)
  obtain ⟨c7, i7, k7⟩ := u_known (C := RX7) (T := TX7) (N := 7) hT inX7 (hT _ it_RX7)
  obtain ⟨c8, i8, k8⟩ := u_known (C := RX7) (T := TX7) (N := 7) hT inX7 (hT _ it_RX7)
  obtain ⟨c9, i9, k9⟩ := u_known (C := RX9) (T := TX9) (N := 15) hT inX9 (hT _ it_RX9)
  obtain ⟨c10, i10, k10⟩ := u_known (C := "java/lang/IllegalStateException") (T := fun _ => ("", "", "", false)) (N := 0) hT (fun _ h => absurd h List.not_mem_nil) (hT _ it_IllegalStateException)
  obtain ⟨c11, i11, k11⟩ := u_known (C := "java/lang/IllegalArgumentException") (T := fun _ => ("", "", "", false)) (N := 0) hT (fun _ h => absurd h List.not_mem_nil) (hT _ it_IllegalArgumentException)
  obtain ⟨c12, i12, k12⟩ := u_known (C := "java/lang/IndexOutOfBoundsException") (T := fun _ => ("", "", "", false)) (N := 0) hT (fun _ h => absurd h List.not_mem_nil) (hT _ it_IndexOutOfBoundsException)
  obtain ⟨c13, i13, k13⟩ := u_known (C := RJx4a65c) (T := TJx4a65c) (N := 3) hT inJx4a65c (hT _ it_RJx4a65c)
  obtain ⟨c14, i14, k14⟩ := u_known (C := RJx35411) (T := TJx35411) (N := 4) hT inJx35411 (hT _ it_RJx35411)
  refine ⟨(fun k => if k = 0 then c0 else if k = 1 then c1 else if k = 2 then c2 else if k = 3 then c3 else if k = 4 then c4 else if k = 5 then c5 else if k = 6 then c6 else if k = 7 then c7 else if k = 8 then c8 else if k = 9 then c9 else if k = 10 then c10 else if k = 11 then c11 else if k = 12 then c12 else if k = 13 then c13 else c14, fun k => if k = 0 then i0 else if k = 1 then i1 else if k = 2 then i2 else if k = 3 then i3 else if k = 4 then i4 else if k = 5 then i5 else if k = 6 then i6 else if k = 7 then i7 else if k = 8 then i8 else if k = 9 then i9 else if k = 10 then i10 else if k = 11 then i11 else if k = 12 then i12 else if k = 13 then i13 else i14), ?_⟩
  intro k q hq
  match k, hq with
  | 0, hq => cases hq; exact k0
  | 1, hq => cases hq; exact k1
  | 2, hq => cases hq; exact k2
  | 3, hq => cases hq; exact k3
  | 4, hq => cases hq; exact k4
  | 5, hq => cases hq; exact k5
  | 6, hq => cases hq; exact k6
  | 7, hq => cases hq; exact k7
  | 8, hq => cases hq; exact k8
  | 9, hq => cases hq; exact k9
  | 10, hq => cases hq; exact k10
  | 11, hq => cases hq; exact k11
  | 12, hq => cases hq; exact k12
  | 13, hq => cases hq; exact k13
  | 14, hq => cases hq; exact k14
  | k + 15, hq => simp [pC] at hq
theorem hd_arr {s : State} {args : Array Value} (hT : ∀ w ∈ pT, w.before args s = true) (hN : ∀ w ∈ pN, w.before args s = true) : ∃ dA : Nat → ClassId, ∀ (k : Nat) (q : ClassId × FieldType), (mi_tys pP dA)[k]? = some q → ArrOfT s q.1 q.2 ∧ va_RA s q.1 q.2 := by
  obtain ⟨c0, a0, b0⟩ := hd_p (ty := .int) (hT _ ac_int)
  obtain ⟨c1, a1, b1⟩ := hd_p (ty := .long) (hT _ ac_long)
  obtain ⟨c2, a2, b2⟩ := hd_p (ty := .double) (hT _ ac_double)
  obtain ⟨c3, a3, b3⟩ := hd_a (ty := .int) (hN _ (by decide +kernel))
  obtain ⟨c4, a4, b4⟩ := hd_o (C := RX5) (hN _ (by decide +kernel))
  obtain ⟨c5, a5, b5⟩ := hd_o (C := RX7) (hN _ (by decide +kernel))
  refine ⟨fun k => if k = 0 then c0 else if k = 1 then c1 else if k = 2 then c2 else if k = 3 then c3 else if k = 4 then c4 else c5, ?_⟩
  intro k q hq
  match k, hq with
  | 0, hq => cases hq; exact ⟨a0, b0⟩
  | 1, hq => cases hq; exact ⟨a1, b1⟩
  | 2, hq => cases hq; exact ⟨a2, b2⟩
  | 3, hq => cases hq; exact ⟨a3, b3⟩
  | 4, hq => cases hq; exact ⟨a4, b4⟩
  | 5, hq => cases hq; exact ⟨a5, b5⟩
  | k + 6, hq => simp [mi_tys, pP, pA] at hq
theorem hd_nest {s : State} {args : Array Value} (hN : ∀ w ∈ pN, w.before args s = true) : ∀ w ∈ pN, va_Nw w s := by
  intro w hw
  have h := hN w hw
  rcases pN_ok w hw with ⟨a, i, b, n, d, h0, rfl⟩ | ⟨a, i, x, h0, rfl⟩ | ⟨C, rfl⟩ | ⟨t, rfl⟩
  · exact va_Nw.of rfl h
  · exact va_Nw.of rfl h
  · exact h
  · exact h
/-- what else stands outside: the texts, what an exception needs, what can't be cast, a list's walker -/
theorem hd_k {s : State} {args : Array Value} (hts : ∀ w ∈ lw_tbl, w.before args s = true) (hs : ∀ w ∈ flatC (Jvm.Cond.and given_1 narrow_1), w.before args s = true) (hA : ∀ a : Nat, a < s.heap.size → ¬ (fun q : Nat => s.heap.size ≤ q) a) : pK s.heap.size s s.heap := by
  refine ⟨⟨vx_Zqof (hts _ (by decide +kernel)) (hts _ (by decide +kernel)) (hs _ (by decide +kernel)) hA, vx_Zqof (hts _ (by decide +kernel)) (hts _ (by decide +kernel)) (hs _ (by decide +kernel)) hA⟩, fun q hq => ?_, va_Nc.of (hs _ (by decide +kernel)), va_Nc.of (hs _ (by decide +kernel)), va_Nc.of (hs _ (by decide +kernel)), fun w hw => ?_, va_Fw.of (hts _ (by decide +kernel)) (hts _ (by decide +kernel)) (hts _ (by decide +kernel)) (hts _ (by decide +kernel)) (hts _ (by decide +kernel))⟩
  · have h : pS.all (fun q => lw_tbl.contains (.stringRef RX8 q.1 q.2) && (flatC (Jvm.Cond.and given_1 narrow_1)).contains (.exactly (.string RX8 q.1) "java/lang/String")) = true := by decide +kernel
    have h2 := List.all_eq_true.mp h q hq
    rw [Bool.and_eq_true] at h2
    obtain ⟨a, -, -, -, v, -⟩ := Cond.exactly_spec (hs _ (List.contains_iff_mem.mp h2.2))
    exact ⟨a, vk_R.of (hts _ (List.contains_iff_mem.mp h2.1)) v⟩
  · have h : pE.all (fun w => lw_tbl.contains w && w.onTables) = true := by decide +kernel
    have h2 := List.all_eq_true.mp h w hw
    rw [Bool.and_eq_true] at h2
    exact va_Nw.of h2.2 (hts _ (List.contains_iff_mem.mp h2.1))
