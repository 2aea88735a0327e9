-- from a walk to a contract
theorem mi_V_cat (ad : Nat → Nat) (v : Value) : (mi_V ad v).category = v.category := by cases v <;> rfl
theorem mi_args (ad : Nat → Nat) : ∀ (i : Nat) (vs : List Value), lv_args i (vs.map (mi_V ad)) = mi_lv ad (lv_args i vs)
  | _, [] => rfl
  | i, v :: vs => by
    show (i, mi_V ad v) :: lv_args (if (mi_V ad v).category = 2 then i + 2 else i + 1) (vs.map (mi_V ad)) = (i, mi_V ad v) :: mi_lv ad (lv_args (if v.category = 2 then i + 2 else i + 1) vs)
    rw [mi_V_cat, mi_args ad]
theorem mi_sl (ad : Nat → Nat) : ∀ vs : List Value, (lg_sl (vs.map (mi_V ad))).length = (lg_sl vs).length
  | [] => rfl
  | v :: vs => by
    have h := mi_sl ad vs
    have e1 : (lg_sl ((v :: vs).map (mi_V ad))).length = (if v.category = 2 then 2 else 1) + (lg_sl (vs.map (mi_V ad))).length := by cases v <;> simp [lg_sl, mi_V, Value.category] <;> omega
    have e2 : (lg_sl (v :: vs)).length = (if v.category = 2 then 2 else 1) + (lg_sl vs).length := by cases v <;> simp [lg_sl, Value.category] <;> omega
    rw [e1, e2, h]
set_option maxHeartbeats 4000000 in
theorem mi_S.of {P : mi_P} {X : mi_X} {k d : Nat} {avs : List Value} {h : mi_H} {mc ms : Nat} {Q : Option Value → mi_H → Prop} (hok : mi_ok P) (hht : P.2.2.2.2.2.2.2.1 k = []) (hy : plainName (P.2.2.2.1 k).1.cls = true) (hn : (lg_sl avs).length ≤ (P.2.2.2.1 k).2.2.1)
    (body : mi_W P X k d mc ms 0 (lv_args 0 avs) [] h Q) : mi_S P X k d avs h mc ms Q := by
  intro l hls D dA b0 xa
  refine Met.ofW (cc := (P.2.2.2.1 k).2.1) (maxL := (P.2.2.2.1 k).2.2.1) (ret := (P.2.2.2.1 k).2.2.2) hy rfl ?_
  intro p e s m args below meth c s₁ B hml hv
  obtain ⟨rfl, hU, hR⟩ := hv
  have hts := atoms_spec (ws := (.code (P.2.2.2.1 k).1 (P.2.2.2.1 k).2.1 (P.2.2.2.1 k).2.2.1 (P.2.2.2.1 k).2.2.2 :: P.2.1)) B.pre
  have hx := B.exec
  have hb := B.bytes
  have hr := B.returns
  have hlocks := B.notSynchronized
  have htab : c.exceptionTable.toList = tableOf (P.2.2.2.2.2.2.2.1 k) := by
    obtain ⟨meth9, c9, h1, h2, -, -, -, -, h7, -⟩ := Cond.code_spec B.named (hts _ List.mem_cons_self)
    cases Option.some.inj (h1.symm.trans B.method)
    cases Option.some.inj (h2.symm.trans (Stand.of_body B).code)
    rw [hht, Array.isEmpty_iff.mp h7]
    rfl
  have hS : va_S (fun q => b0 ≤ q) s.heap s.heap [] := va_S.rf
  have hl := lv_entry (avs.map (mi_V (mi_ad P.2.2.2.2.2.1 b0 xa))) (n := (P.2.2.2.1 k).2.2.1) (by rw [mi_sl]; exact hn)
  rw [mi_args] at hl
  rw [lg_entry_eq]
  generalize (lg_sl (avs.map (mi_V (mi_ad P.2.2.2.2.2.1 b0 xa))) ++ List.replicate ((P.2.2.2.1 k).2.2.1 - (lg_sl (avs.map (mi_V (mi_ad P.2.2.2.2.2.1 b0 xa)))).length) Slot.unset).toArray = ls at hl ⊢
  refine body p l e _ s m _ below meth c s.heap [] 0 0 _ D dA b0 xa ls ⟨hx, hb, hml, findClass_of_methodNamed B.named, fun w hw => hts w (List.mem_cons_of_mem _ hw), ⟨fun q => (name_of_methodNamed B.named B.method).1.trans q, htab, hls⟩, hok.1, hok.2, Nat.le_refl _, Nat.le_refl _, hU⟩ hS (by rw [Nat.zero_add]; exact Nat.le_refl _) (by rw [Nat.zero_add]; exact Nat.le_refl _) hR hl ⟨?_, fun _ _ _ _ _ _ _ _ _ _ _ _ _ _ _ hqx _ => hqx.elim⟩
  intro H1 locs1 cells1 slots1 h1 r pc1 ls1 hS1 hc1 hs1 hR1 hQ hrt
  refine W.widen (k := mc) (n := ms) hc1 hs1 ?_
  have hq : ∀ t : State, t.heap = H1 → s.WarmedH t.vm → ((∃ (r' : Option Value) (h1 : mi_H), Outcome.returned (r.map (mi_V (mi_ad P.2.2.2.2.2.1 b0 xa))) = .returned (r'.map (mi_V (mi_ad P.2.2.2.2.2.1 b0 xa))) ∧ Q r' h1 ∧ mi_R P D dA b0 xa t.heap h1) ∧ va_F (fun q => b0 ≤ q) s t) := fun t ht _ => ⟨⟨r, h1, rfl, hQ, by rw [ht]; exact hR1⟩, hS1.F ht⟩
  cases r with
  | none => exact W.vret hx hb (by rw [hr]; exact hrt.2) hq hS1.2.2 hrt.1
  | some v =>
    cases v with
    | int v =>
      obtain ⟨g1, ty, g2, g3⟩ := hrt
      exact W.zret (ty := ty) hx hb (by rw [hr]; exact g2) g3 hq hS1.2.2 g1
    | long v => exact W.lret hx hb (by rw [hr]; exact hrt.2) hq hS1.2.2 hrt.1
    | float v => exact W.fret hx hb (by rw [hr]; exact hrt.2) hq hS1.2.2 hrt.1
    | double v => exact W.dret hx hb (by rw [hr]; exact hrt.2) hq hS1.2.2 hrt.1
    | null =>
      obtain ⟨g1, rt, g2, g3⟩ := hrt
      exact W.aret (rt := rt) hx hb (by rw [hr]; exact g2) g3 (Or.inl rfl) hq hS1.2.2 g1
    | ref a =>
      obtain ⟨g1, rt, g2, g3⟩ := hrt
      exact W.aret (rt := rt) hx hb (by rw [hr]; exact g2) g3 (Or.inr ⟨_, rfl⟩) hq hS1.2.2 g1
    | retAddr pc => exact absurd hrt id
-- a return
theorem mi_ret {QX : Nat → Nat → mi_H → Prop} {P : mi_P} {X : mi_X} {k d mc ms pc : Nat} {lv : mi_L} {h : mi_H} {Q : Option Value → mi_H → Prop} (r : Option Value) (hrt : mi_rt (P.2.2.2.1 k).2.1 pc (P.2.2.2.1 k).2.2.2 r) (hQ : Q r h) : mi_WX QX P X k d mc ms pc lv r.toList h Q := by
  intro p l e R s m args below meth c H locs cells slots Z D dA b0 xa ls F hS hc hs hR hl hZ
  have := hZ.1 H locs cells slots h r pc ls hS (by omega) (by omega) hR hQ hrt
  cases r <;> exact this
-- the rest of a walk
theorem mi_WX.mono {QX : Nat → Nat → mi_H → Prop} {P : mi_P} {X : mi_X} {k d mc ms pc : Nat} {lv : mi_L} {st : List Value} {h : mi_H} {Q Q' : Option Value → mi_H → Prop} (hq : ∀ r h', Q r h' → Q' r h') (w : mi_WX QX P X k d mc ms pc lv st h Q) : mi_WX QX P X k d mc ms pc lv st h Q' := by
  intro p l e R s m args below meth c H locs cells slots Z D dA b0 xa ls F hS hc hs hR hl hZ
  exact w p l e R s m args below meth c H locs cells slots Z D dA b0 xa ls F hS hc hs hR hl ⟨fun H1 locs1 cells1 slots1 h1 r pc1 ls1 a1 a2 a3 a4 a5 a6 => hZ.1 H1 locs1 cells1 slots1 h1 r pc1 ls1 a1 a2 a3 a4 (hq _ _ a5) a6, hZ.2⟩
/-- a walk whose locals have more listed -/
theorem mi_WX.locs {QX : Nat → Nat → mi_H → Prop} {P : mi_P} {X : mi_X} {k d mc ms pc : Nat} {lv lv' : mi_L} {st : List Value} {h : mi_H} {Q : Option Value → mi_H → Prop} (hq : ∀ q ∈ lv', q ∈ lv) (w : mi_WX QX P X k d mc ms pc lv' st h Q) : mi_WX QX P X k d mc ms pc lv st h Q := by
  intro p l e R s m args below meth c H locs cells slots Z D dA b0 xa ls F hS hc hs hR hl hZ
  refine w p l e R s m args below meth c H locs cells slots Z D dA b0 xa ls F hS hc hs hR ⟨hl.1, hl.2.1, fun q hq' => ?_⟩ hZ
  obtain ⟨q0, h1, h2⟩ := List.mem_map.mp hq'
  exact hl.2.2 q (List.mem_map.mpr ⟨q0, hq q0 h1, h2⟩)
