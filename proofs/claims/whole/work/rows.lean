section
/-! A MACHINE OVER NUMBERS: cells at 0, 1, 2 .. (the first E of them stand outside: rows of ints that nobody writes), states as plain values; mi_W is W over such a state, mi_S a contract of a method over it. One row an instruction, for every method alike: what a method does is then said, and proved, of plain values alone. -/
abbrev mi_C : Type := (Nat × vp_A) ⊕ (Nat × List Value)
abbrev mi_H : Type := Nat × (Nat → mi_C)
abbrev mi_L : Type := List (Nat × Value)
abbrev mi_M : Type := MethodName × ByteArray × Nat × Option FieldType
/-- its kinds of objects, the words that all methods rest on, the words that bear a nest, its methods, its kinds of arrays, how many cells stand outside, the statics that name one of these -/
abbrev mi_P : Type := List vw_C × List Cond × List Cond × (Nat → mi_M) × List FieldType × Nat × List (String × String × String × Nat)
abbrev mi_X : Type := Nat → Nat × (Nat → Int32)
def mi_V (ad : Nat → Nat) (v : Value) : Value := match v with
  | .ref a => .ref (ad a)
  | w => w
def mi_z (ad : Nat → Nat) (z : (Nat → Int32) ⊕ (Nat → Int64) ⊕ (Nat → UInt32) ⊕ (Nat → UInt64) ⊕ (Nat → Option Nat)) : (Nat → Int32) ⊕ (Nat → Int64) ⊕ (Nat → UInt32) ⊕ (Nat → UInt64) ⊕ (Nat → Option Nat) := match z with
  | .inl f => .inl f
  | .inr (.inl f) => .inr (.inl f)
  | .inr (.inr (.inl f)) => .inr (.inr (.inl f))
  | .inr (.inr (.inr (.inl f))) => .inr (.inr (.inr (.inl f)))
  | .inr (.inr (.inr (.inr f))) => .inr (.inr (.inr (.inr (fun i => (f i).map ad))))
def mi_e (dA : Nat → ClassId) (ad : Nat → Nat) (c : mi_C) : va_E := match c with
  | .inl x => .inl (dA x.1, x.2.1, mi_z ad x.2.2)
  | .inr o => .inr (o.1, o.2.map (mi_V ad))
def mi_ad (E b0 : Nat) (xa : Nat → Nat) (a : Nat) : Nat := if a < E then xa a else b0 + (a - E)
def mi_w (dA : Nat → ClassId) (E b0 : Nat) (xa : Nat → Nat) (h : mi_H) : va_W := (List.range' E (h.1 - E)).map (fun a => (mi_ad E b0 xa a, mi_e dA (mi_ad E b0 xa) (h.2 a)))
def mi_tys (P : mi_P) (dA : Nat → ClassId) : List (ClassId × FieldType) := P.2.2.2.2.1.zipIdx.map (fun q => (dA q.2, q.1))
/-- the heap holds the cells -/
def mi_R (P : mi_P) (D : va_G) (dA : Nat → ClassId) (b0 : Nat) (xa : Nat → Nat) (H : Heap) (h : mi_H) : Prop :=
  P.2.2.2.2.2.1 ≤ h.1 ∧ H.size = b0 + (h.1 - P.2.2.2.2.2.1) ∧ va_P D P.1 (mi_w dA P.2.2.2.2.2.1 b0 xa h) H
/-- what stands outside, and what the tables tell -/
def mi_U (P : mi_P) (X : mi_X) (D : va_G) (dA : Nat → ClassId) (b0 : Nat) (xa : Nat → Nat) (U : State) : Prop :=
  b0 ≤ U.heap.size ∧ va_K D P.1 (mi_tys P dA) U ∧ (∀ a, a < P.2.2.2.2.2.1 → va_T .int (xa a) (X a).1 (fun j => .int ((X a).2 j)) (fun q => b0 ≤ q) U U.heap) ∧
  (∀ q ∈ P.2.2.2.2.2.2, q.2.2.2 < P.2.2.2.2.2.1 ∧ va_Z q.1 q.2.1 q.2.2.1 (.ref (xa q.2.2.2)) (fun q => b0 ≤ q) U U.heap) ∧ ∀ w ∈ P.2.2.1, va_Nw w U
/-- what stays all through a body of the method k at the depth d -/
def mi_F (P : mi_P) (X : mi_X) (k d : Nat) (p : Program) (R : Room) (s : State) (m : MethodId) (args : Array Value) (meth : Method) (c : Code) (D : va_G) (dA : Nat → ClassId) (b0 : Nat) (xa : Nat → Nat) : Prop :=
  p.tables.exec = Jvm.exec ∧ c.code = (P.2.2.2.1 k).2.1 ∧ c.maxLocals = (P.2.2.2.1 k).2.2.1 ∧ s.vm.findClass (P.2.2.2.1 k).1.cls = some m.cls ∧ (∀ w ∈ P.2.1, w.before args s = true) ∧ meth.name = (P.2.2.2.1 k).1.name ∧
  (∀ w ∈ P.2.1, (w.onTables && w.keeps) = true ∨ ∃ ty, w = .arrayClass ty) ∧ (∀ w ∈ P.2.2.1, (∃ a i b n d h, w = .fieldLinkNest a i b n d h) ∨ (∃ a i x h, w = .methodLinkNest a i x h) ∨ ∃ C, w = .arrayOver (.object C)) ∧ d ≤ R.frames ∧ 32 * d ≤ R.locals ∧ mi_U P X D dA b0 xa s
def mi_rt (cc : ByteArray) (pc : Nat) (ret : Option FieldType) (r : Option Value) : Prop := match r with
  | none => decode cc pc = .ok (.return_, 1) ∧ ret = none
  | some (.int v) => decode cc pc = .ok (.ireturn, 1) ∧ ∃ ty, ret = some ty ∧ narrow ty (.int v) = .int v
  | some (.long _) => decode cc pc = .ok (.lreturn, 1) ∧ ret = some .long
  | some (.float _) => decode cc pc = .ok (.freturn, 1) ∧ ret = some .float
  | some (.double _) => decode cc pc = .ok (.dreturn, 1) ∧ ret = some .double
  | some .null => decode cc pc = .ok (.areturn, 1) ∧ ∃ rt, ret = some rt ∧ ((∃ n, rt = .object n) ∨ ∃ t, rt = .array t)
  | some (.ref _) => decode cc pc = .ok (.areturn, 1) ∧ ∃ rt, ret = some rt ∧ ((∃ n, rt = .object n) ∨ ∃ t, rt = .array t)
  | some (.retAddr _) => False
def mi_lv (ad : Nat → Nat) (lv : mi_L) : mi_L := lv.map (fun q => (q.1, mi_V ad q.2))
/-- W over plain values: from the place pc, with locals lv, the operand stack st and the cells h, room for mc cells of ms slots: a return with Q comes -/
def mi_W (P : mi_P) (X : mi_X) (k d mc ms pc : Nat) (lv : mi_L) (st : List Value) (h : mi_H) (Q : Option Value → mi_H → Prop) : Prop :=
  ∀ (p : Program) (l : Launch) (e : Env) (R : Room) (s : State) (m : MethodId) (args : Array Value) (below : List Frame) (meth : Method) (c : Code) (H : Heap) (locs : List Loc) (cells slots : Nat) (Z : State → Prop) (D : va_G) (dA : Nat → ClassId) (b0 : Nat) (xa : Nat → Nat) (ls : Array Slot),
    mi_F P X k d p R s m args meth c D dA b0 xa → va_S (fun q => b0 ≤ q) s.heap H locs → cells + mc ≤ R.cells → slots + ms ≤ R.slots → mi_R P D dA b0 xa H h → lv_has ls (P.2.2.2.1 k).2.2.1 (mi_lv (mi_ad P.2.2.2.2.2.1 b0 xa) lv) →
    (∀ (H1 : Heap) (locs1 : List Loc) (cells1 slots1 : Nat) (h1 : mi_H) (r : Option Value) (pc1 : Nat) (ls1 : Array Slot), va_S (fun q => b0 ≤ q) s.heap H1 locs1 → cells1 ≤ R.cells → slots1 ≤ R.slots → mi_R P D dA b0 xa H1 h1 → Q r h1 → mi_rt (P.2.2.2.1 k).2.1 pc1 (P.2.2.2.1 k).2.2.2 r →
      W p l e R s m args below meth c H1 locs1 cells1 slots1 Z (F0 m pc1 ls1 (r.toList.map (mi_V (mi_ad P.2.2.2.2.2.1 b0 xa))))) →
    W p l e R s m args below meth c H locs cells slots Z (F0 m pc ls (st.map (mi_V (mi_ad P.2.2.2.2.2.1 b0 xa))))
/-- the contract of the method k over plain values: from these arguments and cells it returns, with Q -/
def mi_S (P : mi_P) (X : mi_X) (k d : Nat) (avs : List Value) (h : mi_H) (mc ms : Nat) (Q : Option Value → mi_H → Prop) : Prop :=
  ∀ (l : Launch) (D : va_G) (dA : Nat → ClassId) (b0 : Nat) (xa : Nat → Nat), Met l (P.2.2.2.1 k).1 (.code (P.2.2.2.1 k).1 (P.2.2.2.1 k).2.1 (P.2.2.2.1 k).2.2.1 (P.2.2.2.1 k).2.2.2 :: P.2.1) { frames := d, cells := mc, slots := ms, locals := 32 * d }
    (va_Pc (avs.map (mi_V (mi_ad P.2.2.2.2.2.1 b0 xa))) (fun U => mi_U P X D dA b0 xa U ∧ mi_R P D dA b0 xa U.heap h))
    (fun _ st o t => (∃ (r : Option Value) (h1 : mi_H), o = .returned (r.map (mi_V (mi_ad P.2.2.2.2.2.1 b0 xa))) ∧ Q r h1 ∧ mi_R P D dA b0 xa t.heap h1) ∧ va_F (fun q => b0 ≤ q) st t) mc ms (fun q => b0 ≤ q)
/-- a program in order: its words are of the lasting kinds -/
def mi_ok (P : mi_P) : Prop := (∀ w ∈ P.2.1, (w.onTables && w.keeps) = true ∨ ∃ ty, w = .arrayClass ty) ∧ ∀ w ∈ P.2.2.1, (∃ a i b n d h, w = .fieldLinkNest a i b n d h) ∨ (∃ a i x h, w = .methodLinkNest a i x h) ∨ ∃ C, w = .arrayOver (.object C)
-- the cells as a list
theorem mi_w_at {dA : Nat → ClassId} {E b0 : Nat} {xa : Nat → Nat} {h : mi_H} {a : Nat} (h1 : E ≤ a) (h2 : a < h.1) : (mi_w dA E b0 xa h)[a - E]? = some (mi_ad E b0 xa a, mi_e dA (mi_ad E b0 xa) (h.2 a)) := by
  unfold mi_w
  rw [List.getElem?_map, List.getElem?_range' (by omega)]
  simp only [Option.map_some, Nat.one_mul]
  rw [show E + (a - E) = a by omega]
theorem mi_w_in {dA : Nat → ClassId} {E b0 : Nat} {xa : Nat → Nat} {h : mi_H} {j : Nat} {q : Nat × va_E} (hq : (mi_w dA E b0 xa h)[j]? = some q) : E + j < h.1 ∧ q = (mi_ad E b0 xa (E + j), mi_e dA (mi_ad E b0 xa) (h.2 (E + j))) := by
  have hl : j < h.1 - E := by
    have := (List.getElem?_eq_some_iff.mp hq).1
    unfold mi_w at this
    rwa [List.length_map, List.length_range'] at this
  have h1 := mi_w_at (dA := dA) (E := E) (b0 := b0) (xa := xa) (h := h) (a := E + j) (by omega) (by omega)
  rw [show E + j - E = j by omega, hq] at h1
  exact ⟨by omega, Option.some.inj h1⟩
theorem mi_w_D {dA : Nat → ClassId} {E b0 : Nat} {xa : Nat → Nat} {h : mi_H} : va_D (fun q => b0 ≤ q) (mi_w dA E b0 xa h) := by
  refine ⟨fun i j p q hp hq e => ?_, fun k q hq => ?_⟩
  · rw [(mi_w_in hp).2, (mi_w_in hq).2] at e
    have e : mi_ad E b0 xa (E + i) = mi_ad E b0 xa (E + j) := e
    unfold mi_ad at e
    rw [if_neg (by omega), if_neg (by omega)] at e
    omega
  · rw [(mi_w_in hq).2]
    show b0 ≤ mi_ad E b0 xa (E + k)
    unfold mi_ad
    rw [if_neg (by omega)]
    omega
theorem mi_w_set {dA : Nat → ClassId} {E b0 : Nat} {xa : Nat → Nat} {h : mi_H} {a : Nat} (h1 : E ≤ a) (h2 : a < h.1) (c : mi_C) : (mi_w dA E b0 xa h).set (a - E) (mi_ad E b0 xa a, mi_e dA (mi_ad E b0 xa) c) = mi_w dA E b0 xa (h.1, va_up h.2 a c) := by
  apply List.ext_getElem?
  intro j
  by_cases hj : j = a - E
  · subst hj
    have hl : a - E < (mi_w dA E b0 xa h).length := (List.getElem?_eq_some_iff.mp (mi_w_at h1 h2)).1
    rw [List.getElem?_set_self hl, mi_w_at (h := (h.1, va_up h.2 a c)) h1 h2]
    show _ = some (_, mi_e dA _ (va_up h.2 a c a))
    rw [show va_up h.2 a c a = c from if_pos rfl]
  · rw [List.getElem?_set_ne (Ne.symm hj)]
    unfold mi_w
    rw [List.getElem?_map, List.getElem?_map]
    by_cases hl : j < h.1 - E
    · rw [List.getElem?_range' hl, Option.map_some, Option.map_some]
      show some (_, mi_e dA _ (h.2 (E + 1 * j))) = some (_, mi_e dA _ (va_up h.2 a c (E + 1 * j)))
      rw [show va_up h.2 a c (E + 1 * j) = h.2 (E + 1 * j) from if_neg (by omega)]
    · rw [List.getElem?_eq_none (by rw [List.length_range']; omega)]
      rfl
theorem mi_w_push {dA : Nat → ClassId} {E b0 : Nat} {xa : Nat → Nat} {h : mi_H} (h1 : E ≤ h.1) (c : mi_C) : mi_w dA E b0 xa h ++ [(b0 + (h.1 - E), mi_e dA (mi_ad E b0 xa) c)] = mi_w dA E b0 xa (h.1 + 1, va_up h.2 h.1 c) := by
  unfold mi_w
  show _ = (List.range' E (h.1 + 1 - E)).map (fun a => (mi_ad E b0 xa a, mi_e dA (mi_ad E b0 xa) (va_up h.2 h.1 c a)))
  rw [show h.1 + 1 - E = (h.1 - E) + 1 by omega, List.range'_1_concat, List.map_append]
  congr 1
  · apply List.map_congr_left
    intro a ha
    have := List.mem_range'_1.mp ha
    rw [show va_up h.2 h.1 c a = h.2 a from if_neg (by omega)]
  · rw [show E + (h.1 - E) = h.1 by omega]
    show [_] = [(mi_ad E b0 xa h.1, mi_e dA (mi_ad E b0 xa) (va_up h.2 h.1 c h.1))]
    rw [show va_up h.2 h.1 c h.1 = c from if_pos rfl, show mi_ad E b0 xa h.1 = b0 + (h.1 - E) by unfold mi_ad; rw [if_neg (by omega)]]
end
section
-- from a walk to a contract
theorem mi_V_cat (ad : Nat → Nat) (v : Value) : (mi_V ad v).category = v.category := by cases v <;> rfl
theorem mi_args (ad : Nat → Nat) : ∀ (i : Nat) (vs : List Value), lv_args i (vs.map (mi_V ad)) = mi_lv ad (lv_args i vs)
  | _, [] => rfl
  | i, v :: vs => by
    show (i, mi_V ad v) :: lv_args (if (mi_V ad v).category = 2 then i + 2 else i + 1) (vs.map (mi_V ad)) = (i, mi_V ad v) :: mi_lv ad (lv_args (if v.category = 2 then i + 2 else i + 1) vs)
    rw [mi_V_cat, mi_args ad]
theorem mi_sl (ad : Nat → Nat) : ∀ vs : List Value, (lg_sl (vs.map (mi_V ad))).length = (lg_sl vs).length
  | [] => rfl
  | v :: vs => by
    have h := mi_sl ad vs
    have e1 : (lg_sl ((v :: vs).map (mi_V ad))).length = (if v.category = 2 then 2 else 1) + (lg_sl (vs.map (mi_V ad))).length := by cases v <;> simp [lg_sl, mi_V, Value.category] <;> omega
    have e2 : (lg_sl (v :: vs)).length = (if v.category = 2 then 2 else 1) + (lg_sl vs).length := by cases v <;> simp [lg_sl, Value.category] <;> omega
    rw [e1, e2, h]
set_option maxHeartbeats 4000000 in
theorem mi_S.of {P : mi_P} {X : mi_X} {k d : Nat} {avs : List Value} {h : mi_H} {mc ms : Nat} {Q : Option Value → mi_H → Prop} (hok : mi_ok P) (hy : plainName (P.2.2.2.1 k).1.cls = true) (hn : (lg_sl avs).length ≤ (P.2.2.2.1 k).2.2.1)
    (body : mi_W P X k d mc ms 0 (lv_args 0 avs) [] h Q) : mi_S P X k d avs h mc ms Q := by
  intro l D dA b0 xa
  refine Met.ofW (cc := (P.2.2.2.1 k).2.1) (maxL := (P.2.2.2.1 k).2.2.1) (ret := (P.2.2.2.1 k).2.2.2) hy rfl ?_
  intro p e s m args below meth c s₁ B hml hv
  obtain ⟨rfl, hU, hR⟩ := hv
  have hts := atoms_spec (ws := (.code (P.2.2.2.1 k).1 (P.2.2.2.1 k).2.1 (P.2.2.2.1 k).2.2.1 (P.2.2.2.1 k).2.2.2 :: P.2.1)) B.pre
  have hx := B.exec
  have hb := B.bytes
  have hr := B.returns
  have hlocks := B.notSynchronized
  have hS : va_S (fun q => b0 ≤ q) s.heap s.heap [] := va_S.rf
  have hl := lv_entry (avs.map (mi_V (mi_ad P.2.2.2.2.2.1 b0 xa))) (n := (P.2.2.2.1 k).2.2.1) (by rw [mi_sl]; exact hn)
  rw [mi_args] at hl
  rw [lg_entry_eq]
  generalize (lg_sl (avs.map (mi_V (mi_ad P.2.2.2.2.2.1 b0 xa))) ++ List.replicate ((P.2.2.2.1 k).2.2.1 - (lg_sl (avs.map (mi_V (mi_ad P.2.2.2.2.2.1 b0 xa)))).length) Slot.unset).toArray = ls at hl ⊢
  refine body p l e _ s m _ below meth c s.heap [] 0 0 _ D dA b0 xa ls ⟨hx, hb, hml, findClass_of_methodNamed B.named, fun w hw => hts w (List.mem_cons_of_mem _ hw), (name_of_methodNamed B.named B.method).1, hok.1, hok.2, Nat.le_refl _, Nat.le_refl _, hU⟩ hS (by rw [Nat.zero_add]; exact Nat.le_refl _) (by rw [Nat.zero_add]; exact Nat.le_refl _) hR hl ?_
  intro H1 locs1 cells1 slots1 h1 r pc1 ls1 hS1 hc1 hs1 hR1 hQ hrt
  refine W.widen (k := mc) (n := ms) hc1 hs1 ?_
  have hq : ∀ t : State, t.heap = H1 → s.WarmedH t.vm → ((∃ (r' : Option Value) (h1 : mi_H), Outcome.returned (r.map (mi_V (mi_ad P.2.2.2.2.2.1 b0 xa))) = .returned (r'.map (mi_V (mi_ad P.2.2.2.2.2.1 b0 xa))) ∧ Q r' h1 ∧ mi_R P D dA b0 xa t.heap h1) ∧ va_F (fun q => b0 ≤ q) s t) := fun t ht _ => ⟨⟨r, h1, rfl, hQ, by rw [ht]; exact hR1⟩, hS1.F ht⟩
  cases r with
  | none => exact W.vret hx hb (by rw [hr]; exact hrt.2) hq hS1.2.2 hrt.1
  | some v =>
    cases v with
    | int v =>
      obtain ⟨g1, ty, g2, g3⟩ := hrt
      exact W.zret (ty := ty) hx hb (by rw [hr]; exact g2) g3 hq hS1.2.2 g1
    | long v => exact W.lret hx hb (by rw [hr]; exact hrt.2) hq hS1.2.2 hrt.1
    | float v => exact W.fret hx hb (by rw [hr]; exact hrt.2) hq hS1.2.2 hrt.1
    | double v => exact W.dret hx hb (by rw [hr]; exact hrt.2) hq hS1.2.2 hrt.1
    | null =>
      obtain ⟨g1, rt, g2, g3⟩ := hrt
      exact W.aret (rt := rt) hx hb (by rw [hr]; exact g2) g3 (Or.inl rfl) hq hS1.2.2 g1
    | ref a =>
      obtain ⟨g1, rt, g2, g3⟩ := hrt
      exact W.aret (rt := rt) hx hb (by rw [hr]; exact g2) g3 (Or.inr ⟨_, rfl⟩) hq hS1.2.2 g1
    | retAddr pc => exact absurd hrt id
-- a return
theorem mi_ret {P : mi_P} {X : mi_X} {k d mc ms pc : Nat} {lv : mi_L} {h : mi_H} {Q : Option Value → mi_H → Prop} (r : Option Value) (hrt : mi_rt (P.2.2.2.1 k).2.1 pc (P.2.2.2.1 k).2.2.2 r) (hQ : Q r h) : mi_W P X k d mc ms pc lv r.toList h Q := by
  intro p l e R s m args below meth c H locs cells slots Z D dA b0 xa ls F hS hc hs hR hl hZ
  have := hZ H locs cells slots h r pc ls hS (by omega) (by omega) hR hQ hrt
  cases r <;> exact this
-- the rest of a walk
theorem mi_W.mono {P : mi_P} {X : mi_X} {k d mc ms pc : Nat} {lv : mi_L} {st : List Value} {h : mi_H} {Q Q' : Option Value → mi_H → Prop} (hq : ∀ r h', Q r h' → Q' r h') (w : mi_W P X k d mc ms pc lv st h Q) : mi_W P X k d mc ms pc lv st h Q' := by
  intro p l e R s m args below meth c H locs cells slots Z D dA b0 xa ls F hS hc hs hR hl hZ
  exact w p l e R s m args below meth c H locs cells slots Z D dA b0 xa ls F hS hc hs hR hl (fun H1 locs1 cells1 slots1 h1 r pc1 ls1 a1 a2 a3 a4 a5 a6 => hZ H1 locs1 cells1 slots1 h1 r pc1 ls1 a1 a2 a3 a4 (hq _ _ a5) a6)
/-- a walk whose locals have more listed -/
theorem mi_W.locs {P : mi_P} {X : mi_X} {k d mc ms pc : Nat} {lv lv' : mi_L} {st : List Value} {h : mi_H} {Q : Option Value → mi_H → Prop} (hq : ∀ q ∈ lv', q ∈ lv) (w : mi_W P X k d mc ms pc lv' st h Q) : mi_W P X k d mc ms pc lv st h Q := by
  intro p l e R s m args below meth c H locs cells slots Z D dA b0 xa ls F hS hc hs hR hl hZ
  refine w p l e R s m args below meth c H locs cells slots Z D dA b0 xa ls F hS hc hs hR ⟨hl.1, hl.2.1, fun q hq' => ?_⟩ hZ
  obtain ⟨q0, h1, h2⟩ := List.mem_map.mp hq'
  exact hl.2.2 q (List.mem_map.mpr ⟨q0, hq q0 h1, h2⟩)
end
section
-- the straight instructions, as a function
def mi_len : Instr → Nat := fun i => match i with
  | .bipush _ | .iload _ | .lload _ | .fload _ | .dload _ | .aload _ | .istore _ | .lstore _ | .fstore _ | .dstore _ | .astore _ | .ldc _ | .newarray _ => 2
  | .sipush _ | .iinc _ _ | .goto _ | .ifCond _ _ | .if_icmp _ _ | .if_acmp _ _ | .ifnull _ | .ifnonnull _ | .getfield _ | .putfield _ | .getstatic _ | .putstatic _ | .ldc_w _ | .ldc2_w _ | .new _ | .anewarray _ | .invokevirtual _ | .invokespecial _ | .invokestatic _ | .checkcast _ | .instanceof _ => 3
  | .multianewarray _ _ => 4
  | _ => 1
def mi_get (lv : mi_L) (i : Nat) : Option Value := match lv with
  | [] => none
  | q :: r => if q.1 = i then some q.2 else mi_get r i
theorem mi_get_mem {lv : mi_L} {i : Nat} {v : Value} (h : mi_get lv i = some v) : (i, v) ∈ lv := by
  induction lv with
  | nil => cases h
  | cons q r ih =>
    unfold mi_get at h
    by_cases e : q.1 = i
    · rw [if_pos e] at h
      cases h
      subst e
      exact List.mem_cons_self
    · rw [if_neg e] at h
      exact List.mem_cons_of_mem _ (ih h)
def mi_s1 (lv : mi_L) (i : Nat) (v : Value) : mi_L := (i, v) :: lv.filter (fun q => !(q.1 == i) && !(q.1 + 1 == i && q.2.category == 2))
def mi_s2 (lv : mi_L) (i : Nat) (v : Value) : mi_L := (i, v) :: lv.filter (fun q => !(q.1 == i) && (!(q.1 == i + 1) && !(q.1 + 1 == i && q.2.category == 2)))
theorem mi_s1_lv (ad : Nat → Nat) (lv : mi_L) (i : Nat) (v : Value) : (i, mi_V ad v) :: (mi_lv ad lv).filter (fun q => !(q.1 == i) && !(q.1 + 1 == i && q.2.category == 2)) = mi_lv ad (mi_s1 lv i v) := by
  unfold mi_s1 mi_lv
  rw [List.map_cons, List.filter_map]
  congr 2
  refine List.filter_congr fun q _ => ?_
  show (!(q.1 == i) && !(q.1 + 1 == i && (mi_V ad q.2).category == 2)) = _
  rw [mi_V_cat]
theorem mi_s2_lv (ad : Nat → Nat) (lv : mi_L) (i : Nat) (v : Value) : (i, mi_V ad v) :: (mi_lv ad lv).filter (fun q => !(q.1 == i) && (!(q.1 == i + 1) && !(q.1 + 1 == i && q.2.category == 2))) = mi_lv ad (mi_s2 lv i v) := by
  unfold mi_s2 mi_lv
  rw [List.map_cons, List.filter_map]
  congr 2
  refine List.filter_congr fun q _ => ?_
  show (!(q.1 == i) && (!(q.1 == i + 1) && !(q.1 + 1 == i && (mi_V ad q.2).category == 2))) = _
  rw [mi_V_cat]
def mi_iushr (x y : Int32) : Int32 := (x.toUInt32 >>> (y.toUInt32 &&& Int32.toUInt32 31)).toInt32
def mi_lushr (x : Int64) (y : Int32) : Int64 := (x.toUInt64 >>> (y.toInt64.toUInt64 &&& Int64.toUInt64 63)).toInt64
def mi_lshl (x : Int64) (y : Int32) : Int64 := x <<< (y.toInt64 &&& 63)
def mi_lshr (x : Int64) (y : Int32) : Int64 := x >>> (y.toInt64 &&& 63)
def mi_jump (pc : Nat) (off : Int) : Option Nat := match Int.ofNat pc + off with
  | .ofNat t => some t
  | .negSucc _ => none
theorem mi_jump_eq {pc : Nat} {off : Int} {t : Nat} (h : mi_jump pc off = some t) : (pc : Int) + off = (t : Int) := by
  unfold mi_jump at h
  split at h
  next t' e => cases h; exact e
  next => cases h
abbrev mi_O : Type := Option (Nat × mi_L × List Value)

def mi_fii (f : Int32 → Int32 → Int32) (n : Nat) (lv : mi_L) (st : List Value) : mi_O := match st with
  | .int y :: .int x :: r => some (n, lv, .int (f x y) :: r)
  | _ => none
theorem mi_fii_eq {f : Int32 → Int32 → Int32} {n : Nat} {lv : mi_L} {st : List Value} {z : Nat × mi_L × List Value} (h : mi_fii f n lv st = some z) : ∃ (x : Int32) (y : Int32) (r : List Value), st = .int y :: .int x :: r ∧ z = (n, lv, .int (f x y) :: r) := by
  unfold mi_fii at h
  split at h
  · cases h; exact ⟨_, _, _, rfl, rfl⟩
  · cases h
def mi_fll (f : Int64 → Int64 → Int64) (n : Nat) (lv : mi_L) (st : List Value) : mi_O := match st with
  | .long y :: .long x :: r => some (n, lv, .long (f x y) :: r)
  | _ => none
theorem mi_fll_eq {f : Int64 → Int64 → Int64} {n : Nat} {lv : mi_L} {st : List Value} {z : Nat × mi_L × List Value} (h : mi_fll f n lv st = some z) : ∃ (x : Int64) (y : Int64) (r : List Value), st = .long y :: .long x :: r ∧ z = (n, lv, .long (f x y) :: r) := by
  unfold mi_fll at h
  split at h
  · cases h; exact ⟨_, _, _, rfl, rfl⟩
  · cases h
def mi_fli (f : Int64 → Int32 → Int64) (n : Nat) (lv : mi_L) (st : List Value) : mi_O := match st with
  | .int y :: .long x :: r => some (n, lv, .long (f x y) :: r)
  | _ => none
theorem mi_fli_eq {f : Int64 → Int32 → Int64} {n : Nat} {lv : mi_L} {st : List Value} {z : Nat × mi_L × List Value} (h : mi_fli f n lv st = some z) : ∃ (x : Int64) (y : Int32) (r : List Value), st = .int y :: .long x :: r ∧ z = (n, lv, .long (f x y) :: r) := by
  unfold mi_fli at h
  split at h
  · cases h; exact ⟨_, _, _, rfl, rfl⟩
  · cases h
def mi_fi (f : Int32 → Int32) (n : Nat) (lv : mi_L) (st : List Value) : mi_O := match st with
  | .int x :: r => some (n, lv, .int (f x) :: r)
  | _ => none
theorem mi_fi_eq {f : Int32 → Int32} {n : Nat} {lv : mi_L} {st : List Value} {z : Nat × mi_L × List Value} (h : mi_fi f n lv st = some z) : ∃ (x : Int32) (r : List Value), st = .int x :: r ∧ z = (n, lv, .int (f x) :: r) := by
  unfold mi_fi at h
  split at h
  · cases h; exact ⟨_, _, rfl, rfl⟩
  · cases h
def mi_fl (f : Int64 → Int64) (n : Nat) (lv : mi_L) (st : List Value) : mi_O := match st with
  | .long x :: r => some (n, lv, .long (f x) :: r)
  | _ => none
theorem mi_fl_eq {f : Int64 → Int64} {n : Nat} {lv : mi_L} {st : List Value} {z : Nat × mi_L × List Value} (h : mi_fl f n lv st = some z) : ∃ (x : Int64) (r : List Value), st = .long x :: r ∧ z = (n, lv, .long (f x) :: r) := by
  unfold mi_fl at h
  split at h
  · cases h; exact ⟨_, _, rfl, rfl⟩
  · cases h
def mi_fil (f : Int32 → Int64) (n : Nat) (lv : mi_L) (st : List Value) : mi_O := match st with
  | .int x :: r => some (n, lv, .long (f x) :: r)
  | _ => none
theorem mi_fil_eq {f : Int32 → Int64} {n : Nat} {lv : mi_L} {st : List Value} {z : Nat × mi_L × List Value} (h : mi_fil f n lv st = some z) : ∃ (x : Int32) (r : List Value), st = .int x :: r ∧ z = (n, lv, .long (f x) :: r) := by
  unfold mi_fil at h
  split at h
  · cases h; exact ⟨_, _, rfl, rfl⟩
  · cases h
def mi_fl_i (f : Int64 → Int32) (n : Nat) (lv : mi_L) (st : List Value) : mi_O := match st with
  | .long x :: r => some (n, lv, .int (f x) :: r)
  | _ => none
theorem mi_fl_i_eq {f : Int64 → Int32} {n : Nat} {lv : mi_L} {st : List Value} {z : Nat × mi_L × List Value} (h : mi_fl_i f n lv st = some z) : ∃ (x : Int64) (r : List Value), st = .long x :: r ∧ z = (n, lv, .int (f x) :: r) := by
  unfold mi_fl_i at h
  split at h
  · cases h; exact ⟨_, _, rfl, rfl⟩
  · cases h
def mi_fll_i (f : Int64 → Int64 → Int32) (n : Nat) (lv : mi_L) (st : List Value) : mi_O := match st with
  | .long y :: .long x :: r => some (n, lv, .int (f x y) :: r)
  | _ => none
theorem mi_fll_i_eq {f : Int64 → Int64 → Int32} {n : Nat} {lv : mi_L} {st : List Value} {z : Nat × mi_L × List Value} (h : mi_fll_i f n lv st = some z) : ∃ (x : Int64) (y : Int64) (r : List Value), st = .long y :: .long x :: r ∧ z = (n, lv, .int (f x y) :: r) := by
  unfold mi_fll_i at h
  split at h
  · cases h; exact ⟨_, _, _, rfl, rfl⟩
  · cases h
def mi_fdd_i (f : UInt64 → UInt64 → Int32) (n : Nat) (lv : mi_L) (st : List Value) : mi_O := match st with
  | .double y :: .double x :: r => some (n, lv, .int (f x y) :: r)
  | _ => none
theorem mi_fdd_i_eq {f : UInt64 → UInt64 → Int32} {n : Nat} {lv : mi_L} {st : List Value} {z : Nat × mi_L × List Value} (h : mi_fdd_i f n lv st = some z) : ∃ (x : UInt64) (y : UInt64) (r : List Value), st = .double y :: .double x :: r ∧ z = (n, lv, .int (f x y) :: r) := by
  unfold mi_fdd_i at h
  split at h
  · cases h; exact ⟨_, _, _, rfl, rfl⟩
  · cases h
def mi_fff_i (f : UInt32 → UInt32 → Int32) (n : Nat) (lv : mi_L) (st : List Value) : mi_O := match st with
  | .float y :: .float x :: r => some (n, lv, .int (f x y) :: r)
  | _ => none
theorem mi_fff_i_eq {f : UInt32 → UInt32 → Int32} {n : Nat} {lv : mi_L} {st : List Value} {z : Nat × mi_L × List Value} (h : mi_fff_i f n lv st = some z) : ∃ (x : UInt32) (y : UInt32) (r : List Value), st = .float y :: .float x :: r ∧ z = (n, lv, .int (f x y) :: r) := by
  unfold mi_fff_i at h
  split at h
  · cases h; exact ⟨_, _, _, rfl, rfl⟩
  · cases h
def mi_fid (f : Int32 → UInt64) (n : Nat) (lv : mi_L) (st : List Value) : mi_O := match st with
  | .int x :: r => some (n, lv, .double (f x) :: r)
  | _ => none
theorem mi_fid_eq {f : Int32 → UInt64} {n : Nat} {lv : mi_L} {st : List Value} {z : Nat × mi_L × List Value} (h : mi_fid f n lv st = some z) : ∃ (x : Int32) (r : List Value), st = .int x :: r ∧ z = (n, lv, .double (f x) :: r) := by
  unfold mi_fid at h
  split at h
  · cases h; exact ⟨_, _, rfl, rfl⟩
  · cases h
def mi_fd_i (f : UInt64 → Int32) (n : Nat) (lv : mi_L) (st : List Value) : mi_O := match st with
  | .double x :: r => some (n, lv, .int (f x) :: r)
  | _ => none
theorem mi_fd_i_eq {f : UInt64 → Int32} {n : Nat} {lv : mi_L} {st : List Value} {z : Nat × mi_L × List Value} (h : mi_fd_i f n lv st = some z) : ∃ (x : UInt64) (r : List Value), st = .double x :: r ∧ z = (n, lv, .int (f x) :: r) := by
  unfold mi_fd_i at h
  split at h
  · cases h; exact ⟨_, _, rfl, rfl⟩
  · cases h
def mi_fd_l (f : UInt64 → Int64) (n : Nat) (lv : mi_L) (st : List Value) : mi_O := match st with
  | .double x :: r => some (n, lv, .long (f x) :: r)
  | _ => none
theorem mi_fd_l_eq {f : UInt64 → Int64} {n : Nat} {lv : mi_L} {st : List Value} {z : Nat × mi_L × List Value} (h : mi_fd_l f n lv st = some z) : ∃ (x : UInt64) (r : List Value), st = .double x :: r ∧ z = (n, lv, .long (f x) :: r) := by
  unfold mi_fd_l at h
  split at h
  · cases h; exact ⟨_, _, rfl, rfl⟩
  · cases h
def mi_fif (f : Int32 → UInt32) (n : Nat) (lv : mi_L) (st : List Value) : mi_O := match st with
  | .int x :: r => some (n, lv, .float (f x) :: r)
  | _ => none
theorem mi_fif_eq {f : Int32 → UInt32} {n : Nat} {lv : mi_L} {st : List Value} {z : Nat × mi_L × List Value} (h : mi_fif f n lv st = some z) : ∃ (x : Int32) (r : List Value), st = .int x :: r ∧ z = (n, lv, .float (f x) :: r) := by
  unfold mi_fif at h
  split at h
  · cases h; exact ⟨_, _, rfl, rfl⟩
  · cases h
def mi_fld (f : Int64 → UInt64) (n : Nat) (lv : mi_L) (st : List Value) : mi_O := match st with
  | .long x :: r => some (n, lv, .double (f x) :: r)
  | _ => none
theorem mi_fld_eq {f : Int64 → UInt64} {n : Nat} {lv : mi_L} {st : List Value} {z : Nat × mi_L × List Value} (h : mi_fld f n lv st = some z) : ∃ (x : Int64) (r : List Value), st = .long x :: r ∧ z = (n, lv, .double (f x) :: r) := by
  unfold mi_fld at h
  split at h
  · cases h; exact ⟨_, _, rfl, rfl⟩
  · cases h
def mi_ld_i (n i : Nat) (lv : mi_L) (st : List Value) : mi_O := match mi_get lv i with
  | some (.int x) => some (n, lv, .int x :: st)
  | _ => none
theorem mi_ld_i_eq {n i : Nat} {lv : mi_L} {st : List Value} {z : Nat × mi_L × List Value} (h : mi_ld_i n i lv st = some z) : ∃ x : Int32, mi_get lv i = some (.int x) ∧ z = (n, lv, .int x :: st) := by
  unfold mi_ld_i at h
  split at h
  next x e => cases h; exact ⟨x, e, rfl⟩
  next => cases h
def mi_st_i (n i nL : Nat) (lv : mi_L) (st : List Value) : mi_O := match st with
  | .int x :: r => if i < nL then some (n, mi_s1 lv i (.int x), r) else none
  | _ => none
theorem mi_st_i_eq {n i nL : Nat} {lv : mi_L} {st : List Value} {z : Nat × mi_L × List Value} (h : mi_st_i n i nL lv st = some z) : i < nL ∧ ∃ (x : Int32) (r : List Value), st = .int x :: r ∧ z = (n, mi_s1 lv i (.int x), r) := by
  unfold mi_st_i at h
  split at h
  next x r =>
    by_cases e : i < nL
    · rw [if_pos e] at h; cases h; exact ⟨e, x, r, rfl, rfl⟩
    · rw [if_neg e] at h; cases h
  next => cases h
def mi_ld_l (n i : Nat) (lv : mi_L) (st : List Value) : mi_O := match mi_get lv i with
  | some (.long x) => some (n, lv, .long x :: st)
  | _ => none
theorem mi_ld_l_eq {n i : Nat} {lv : mi_L} {st : List Value} {z : Nat × mi_L × List Value} (h : mi_ld_l n i lv st = some z) : ∃ x : Int64, mi_get lv i = some (.long x) ∧ z = (n, lv, .long x :: st) := by
  unfold mi_ld_l at h
  split at h
  next x e => cases h; exact ⟨x, e, rfl⟩
  next => cases h
def mi_st_l (n i nL : Nat) (lv : mi_L) (st : List Value) : mi_O := match st with
  | .long x :: r => if i + 1 < nL then some (n, mi_s2 lv i (.long x), r) else none
  | _ => none
theorem mi_st_l_eq {n i nL : Nat} {lv : mi_L} {st : List Value} {z : Nat × mi_L × List Value} (h : mi_st_l n i nL lv st = some z) : i + 1 < nL ∧ ∃ (x : Int64) (r : List Value), st = .long x :: r ∧ z = (n, mi_s2 lv i (.long x), r) := by
  unfold mi_st_l at h
  split at h
  next x r =>
    by_cases e : i + 1 < nL
    · rw [if_pos e] at h; cases h; exact ⟨e, x, r, rfl, rfl⟩
    · rw [if_neg e] at h; cases h
  next => cases h
def mi_ld_f (n i : Nat) (lv : mi_L) (st : List Value) : mi_O := match mi_get lv i with
  | some (.float x) => some (n, lv, .float x :: st)
  | _ => none
theorem mi_ld_f_eq {n i : Nat} {lv : mi_L} {st : List Value} {z : Nat × mi_L × List Value} (h : mi_ld_f n i lv st = some z) : ∃ x : UInt32, mi_get lv i = some (.float x) ∧ z = (n, lv, .float x :: st) := by
  unfold mi_ld_f at h
  split at h
  next x e => cases h; exact ⟨x, e, rfl⟩
  next => cases h
def mi_st_f (n i nL : Nat) (lv : mi_L) (st : List Value) : mi_O := match st with
  | .float x :: r => if i < nL then some (n, mi_s1 lv i (.float x), r) else none
  | _ => none
theorem mi_st_f_eq {n i nL : Nat} {lv : mi_L} {st : List Value} {z : Nat × mi_L × List Value} (h : mi_st_f n i nL lv st = some z) : i < nL ∧ ∃ (x : UInt32) (r : List Value), st = .float x :: r ∧ z = (n, mi_s1 lv i (.float x), r) := by
  unfold mi_st_f at h
  split at h
  next x r =>
    by_cases e : i < nL
    · rw [if_pos e] at h; cases h; exact ⟨e, x, r, rfl, rfl⟩
    · rw [if_neg e] at h; cases h
  next => cases h
def mi_ld_d (n i : Nat) (lv : mi_L) (st : List Value) : mi_O := match mi_get lv i with
  | some (.double x) => some (n, lv, .double x :: st)
  | _ => none
theorem mi_ld_d_eq {n i : Nat} {lv : mi_L} {st : List Value} {z : Nat × mi_L × List Value} (h : mi_ld_d n i lv st = some z) : ∃ x : UInt64, mi_get lv i = some (.double x) ∧ z = (n, lv, .double x :: st) := by
  unfold mi_ld_d at h
  split at h
  next x e => cases h; exact ⟨x, e, rfl⟩
  next => cases h
def mi_st_d (n i nL : Nat) (lv : mi_L) (st : List Value) : mi_O := match st with
  | .double x :: r => if i + 1 < nL then some (n, mi_s2 lv i (.double x), r) else none
  | _ => none
theorem mi_st_d_eq {n i nL : Nat} {lv : mi_L} {st : List Value} {z : Nat × mi_L × List Value} (h : mi_st_d n i nL lv st = some z) : i + 1 < nL ∧ ∃ (x : UInt64) (r : List Value), st = .double x :: r ∧ z = (n, mi_s2 lv i (.double x), r) := by
  unfold mi_st_d at h
  split at h
  next x r =>
    by_cases e : i + 1 < nL
    · rw [if_pos e] at h; cases h; exact ⟨e, x, r, rfl, rfl⟩
    · rw [if_neg e] at h; cases h
  next => cases h
def mi_ld_a (n i : Nat) (lv : mi_L) (st : List Value) : mi_O := match mi_get lv i with
  | some (.ref x) => some (n, lv, .ref x :: st)
  | some .null => some (n, lv, .null :: st)
  | _ => none
theorem mi_ld_a_eq {n i : Nat} {lv : mi_L} {st : List Value} {z : Nat × mi_L × List Value} (h : mi_ld_a n i lv st = some z) : (∃ x : Nat, mi_get lv i = some (.ref x) ∧ z = (n, lv, .ref x :: st)) ∨ (mi_get lv i = some .null ∧ z = (n, lv, .null :: st)) := by
  unfold mi_ld_a at h
  split at h
  next x e => cases h; exact Or.inl ⟨x, e, rfl⟩
  next e => cases h; exact Or.inr ⟨e, rfl⟩
  next => cases h
def mi_st_a (n i nL : Nat) (lv : mi_L) (st : List Value) : mi_O := match st with
  | .ref x :: r => if i < nL then some (n, mi_s1 lv i (.ref x), r) else none
  | .null :: r => if i < nL then some (n, mi_s1 lv i .null, r) else none
  | _ => none
theorem mi_st_a_eq {n i nL : Nat} {lv : mi_L} {st : List Value} {z : Nat × mi_L × List Value} (h : mi_st_a n i nL lv st = some z) : i < nL ∧ ((∃ (x : Nat) (r : List Value), st = .ref x :: r ∧ z = (n, mi_s1 lv i (.ref x), r)) ∨ ∃ r : List Value, st = .null :: r ∧ z = (n, mi_s1 lv i .null, r)) := by
  unfold mi_st_a at h
  split at h
  next x r =>
    by_cases e : i < nL
    · rw [if_pos e] at h; cases h; exact ⟨e, Or.inl ⟨x, r, rfl, rfl⟩⟩
    · rw [if_neg e] at h; cases h
  next r =>
    by_cases e : i < nL
    · rw [if_pos e] at h; cases h; exact ⟨e, Or.inr ⟨r, rfl, rfl⟩⟩
    · rw [if_neg e] at h; cases h
  next => cases h
def mi_inc (n i nL : Nat) (k : Int) (lv : mi_L) (st : List Value) : mi_O := match mi_get lv i with
  | some (.int x) => if i < nL then some (n, mi_s1 lv i (.int (x + Int32.ofInt k)), st) else none
  | _ => none
theorem mi_inc_eq {n i nL : Nat} {k : Int} {lv : mi_L} {st : List Value} {z : Nat × mi_L × List Value} (h : mi_inc n i nL k lv st = some z) : i < nL ∧ ∃ x : Int32, mi_get lv i = some (.int x) ∧ z = (n, mi_s1 lv i (.int (x + Int32.ofInt k)), st) := by
  unfold mi_inc at h
  split at h
  next x e =>
    by_cases e' : i < nL
    · rw [if_pos e'] at h; cases h; exact ⟨e', x, e, rfl⟩
    · rw [if_neg e'] at h; cases h
  next => cases h
def mi_pop (n : Nat) (lv : mi_L) (st : List Value) : mi_O := match st with
  | v :: r => if v.category = 1 then some (n, lv, r) else none
  | _ => none
def mi_dup (n : Nat) (lv : mi_L) (st : List Value) : mi_O := match st with
  | v :: r => if v.category = 1 then some (n, lv, v :: v :: r) else none
  | _ => none
def mi_dup_x1 (n : Nat) (lv : mi_L) (st : List Value) : mi_O := match st with
  | v :: u :: r => if v.category = 1 ∧ u.category = 1 then some (n, lv, v :: u :: v :: r) else none
  | _ => none
def mi_dup2 (n : Nat) (lv : mi_L) (st : List Value) : mi_O := match st with
  | v :: u :: r => if v.category = 1 ∧ u.category = 1 then some (n, lv, v :: u :: v :: u :: r) else none
  | _ => none
def mi_pop2 (n : Nat) (lv : mi_L) (st : List Value) : mi_O := match st with
  | v :: r => if v.category = 2 then some (n, lv, r) else none
  | _ => none
theorem mi_pop_eq {n : Nat} {lv : mi_L} {st : List Value} {z : Nat × mi_L × List Value} (h : mi_pop n lv st = some z) : ∃ (v : Value) (r : List Value), (v.category = 1) ∧ st = v :: r ∧ z = (n, lv, r) := by
  unfold mi_pop at h
  split at h
  next v r =>
    by_cases e : v.category = 1
    · rw [if_pos e] at h; cases h; exact ⟨_, _, e, rfl, rfl⟩
    · rw [if_neg e] at h; cases h
  next => cases h
theorem mi_dup_eq {n : Nat} {lv : mi_L} {st : List Value} {z : Nat × mi_L × List Value} (h : mi_dup n lv st = some z) : ∃ (v : Value) (r : List Value), (v.category = 1) ∧ st = v :: r ∧ z = (n, lv, v :: v :: r) := by
  unfold mi_dup at h
  split at h
  next v r =>
    by_cases e : v.category = 1
    · rw [if_pos e] at h; cases h; exact ⟨_, _, e, rfl, rfl⟩
    · rw [if_neg e] at h; cases h
  next => cases h
theorem mi_dup_x1_eq {n : Nat} {lv : mi_L} {st : List Value} {z : Nat × mi_L × List Value} (h : mi_dup_x1 n lv st = some z) : ∃ (v u : Value) (r : List Value), (v.category = 1 ∧ u.category = 1) ∧ st = v :: u :: r ∧ z = (n, lv, v :: u :: v :: r) := by
  unfold mi_dup_x1 at h
  split at h
  next v u r =>
    by_cases e : v.category = 1 ∧ u.category = 1
    · rw [if_pos e] at h; cases h; exact ⟨_, _, _, e, rfl, rfl⟩
    · rw [if_neg e] at h; cases h
  next => cases h
theorem mi_dup2_eq {n : Nat} {lv : mi_L} {st : List Value} {z : Nat × mi_L × List Value} (h : mi_dup2 n lv st = some z) : ∃ (v u : Value) (r : List Value), (v.category = 1 ∧ u.category = 1) ∧ st = v :: u :: r ∧ z = (n, lv, v :: u :: v :: u :: r) := by
  unfold mi_dup2 at h
  split at h
  next v u r =>
    by_cases e : v.category = 1 ∧ u.category = 1
    · rw [if_pos e] at h; cases h; exact ⟨_, _, _, e, rfl, rfl⟩
    · rw [if_neg e] at h; cases h
  next => cases h
theorem mi_pop2_eq {n : Nat} {lv : mi_L} {st : List Value} {z : Nat × mi_L × List Value} (h : mi_pop2 n lv st = some z) : ∃ (v : Value) (r : List Value), (v.category = 2) ∧ st = v :: r ∧ z = (n, lv, r) := by
  unfold mi_pop2 at h
  split at h
  next v r =>
    by_cases e : v.category = 2
    · rw [if_pos e] at h; cases h; exact ⟨_, _, e, rfl, rfl⟩
    · rw [if_neg e] at h; cases h
  next => cases h
def mi_p (nL : Nat) (i : Instr) (pc : Nat) (lv : mi_L) (st : List Value) : mi_O := match i with
  | .iconst n => some (pc + 1, lv, .int (Int32.ofInt n) :: st)
  | .bipush n => some (pc + 2, lv, .int (Int8.ofInt n).toInt32 :: st)
  | .sipush n => some (pc + 3, lv, .int (Int16.ofInt n).toInt32 :: st)
  | .lconst n => some (pc + 1, lv, .long (Int64.ofNat (n : Nat)) :: st)
  | .aconst_null => some (pc + 1, lv, .null :: st)
  | .iload i => mi_ld_i (pc + 2) i lv st
  | .iload_n i => mi_ld_i (pc + 1) i lv st
  | .lload i => mi_ld_l (pc + 2) i lv st
  | .lload_n i => mi_ld_l (pc + 1) i lv st
  | .fload i => mi_ld_f (pc + 2) i lv st
  | .fload_n i => mi_ld_f (pc + 1) i lv st
  | .dload i => mi_ld_d (pc + 2) i lv st
  | .dload_n i => mi_ld_d (pc + 1) i lv st
  | .aload i => mi_ld_a (pc + 2) i lv st
  | .aload_n i => mi_ld_a (pc + 1) i lv st
  | .istore i => mi_st_i (pc + 2) i nL lv st
  | .istore_n i => mi_st_i (pc + 1) i nL lv st
  | .lstore i => mi_st_l (pc + 2) i nL lv st
  | .lstore_n i => mi_st_l (pc + 1) i nL lv st
  | .fstore i => mi_st_f (pc + 2) i nL lv st
  | .fstore_n i => mi_st_f (pc + 1) i nL lv st
  | .dstore i => mi_st_d (pc + 2) i nL lv st
  | .dstore_n i => mi_st_d (pc + 1) i nL lv st
  | .astore i => mi_st_a (pc + 2) i nL lv st
  | .astore_n i => mi_st_a (pc + 1) i nL lv st
  | .iinc i n => mi_inc (pc + 3) i nL n lv st
  | .iadd => mi_fii (fun x y => x + y) (pc + 1) lv st
  | .isub => mi_fii (fun x y => x - y) (pc + 1) lv st
  | .imul => mi_fii (fun x y => x * y) (pc + 1) lv st
  | .iand => mi_fii (fun x y => x &&& y) (pc + 1) lv st
  | .ior => mi_fii (fun x y => x ||| y) (pc + 1) lv st
  | .ixor => mi_fii (fun x y => x ^^^ y) (pc + 1) lv st
  | .ladd => mi_fll (fun x y => x + y) (pc + 1) lv st
  | .lsub => mi_fll (fun x y => x - y) (pc + 1) lv st
  | .lmul => mi_fll (fun x y => x * y) (pc + 1) lv st
  | .land => mi_fll (fun x y => x &&& y) (pc + 1) lv st
  | .lor => mi_fll (fun x y => x ||| y) (pc + 1) lv st
  | .lxor => mi_fll (fun x y => x ^^^ y) (pc + 1) lv st
  | .ishl => mi_fii (fun x y => x <<< (y &&& 31)) (pc + 1) lv st
  | .ishr => mi_fii (fun x y => x >>> (y &&& 31)) (pc + 1) lv st
  | .iushr => mi_fii mi_iushr (pc + 1) lv st
  | .lshl => mi_fli mi_lshl (pc + 1) lv st
  | .lshr => mi_fli mi_lshr (pc + 1) lv st
  | .lushr => mi_fli mi_lushr (pc + 1) lv st
  | .ineg => mi_fi (fun x => -x) (pc + 1) lv st
  | .lneg => mi_fl (fun x => -x) (pc + 1) lv st
  | .i2l => mi_fil (fun x => x.toInt64) (pc + 1) lv st
  | .l2i => mi_fl_i (fun x => x.toInt32) (pc + 1) lv st
  | .lcmp => mi_fll_i lg_cmp (pc + 1) lv st
  | .i2d => mi_fid FP.i2d (pc + 1) lv st
  | .d2i => mi_fd_i FP.d2i (pc + 1) lv st
  | .d2l => mi_fd_l FP.d2l (pc + 1) lv st
  | .i2f => mi_fif FP.i2f (pc + 1) lv st
  | .l2d => mi_fld FP.l2d (pc + 1) lv st
  | .dcmp o => mi_fdd_i (fun x y => Op.cmpValue (FP.dcmp x y) o) (pc + 1) lv st
  | .fcmp o => mi_fff_i (fun x y => Op.cmpValue (FP.fcmp x y) o) (pc + 1) lv st
  | .pop => mi_pop (pc + 1) lv st
  | .dup => mi_dup (pc + 1) lv st
  | .dup_x1 => mi_dup_x1 (pc + 1) lv st
  | .dup2 => mi_dup2 (pc + 1) lv st
  | .pop2 => mi_pop2 (pc + 1) lv st
  | .goto o => (mi_jump pc o).map (fun t => (t, lv, st))
  | .fconst n => some (pc + 1, lv, .float (match n with | 0 => FP.fconst0 | 1 => FP.fconst1 | 2 => FP.fconst2) :: st)
  | .dconst n => some (pc + 1, lv, .double (match n with | 0 => FP.dconst0 | 1 => FP.dconst1) :: st)
  | _ => none
theorem mi_mem_l {ad : Nat → Nat} {lv : mi_L} {i : Nat} {v : Value} (h : mi_get lv i = some v) : (i, mi_V ad v) ∈ mi_lv ad lv := List.mem_map.mpr ⟨(i, v), mi_get_mem h, rfl⟩
theorem mi_at_l {ad : Nat → Nat} {ls : Array Slot} {nL : Nat} {lv : mi_L} {i : Nat} {v : Value} (hl : lv_has ls nL (mi_lv ad lv)) (h : mi_get lv i = some v) : ls[i]? = some (.val (mi_V ad v)) := hl.2.2 (i, mi_V ad v) (mi_mem_l h)
section MIP
variable {p : Program} {l : Launch} {e : Env} {R : Room} {s : State} {m : MethodId} {args : Array Value} {below : List Frame} {meth : Method} {c : Code} {H : Heap} {locs : List Loc} {cells slots : Nat} {Q : State → Prop}
set_option maxHeartbeats 4000000 in
theorem mi_p_W {ad : Nat → Nat} {cc : ByteArray} {nL : Nat} {i : Instr} {pc : Nat} {lv : mi_L} {st : List Value} {z : Nat × mi_L × List Value} {ls : Array Slot} (hx : p.tables.exec = Jvm.exec) (hb : c.code = cc) (hdg : decode cc pc = .ok (i, mi_len i)) (hp : mi_p nL i pc lv st = some z) (hl : lv_has ls nL (mi_lv ad lv))
    (kk : ∀ ls' : Array Slot, lv_has ls' nL (mi_lv ad z.2.1) → W p l e R s m args below meth c H locs cells slots Q (F0 m z.1 ls' (z.2.2.map (mi_V ad)))) : W p l e R s m args below meth c H locs cells slots Q (F0 m pc ls (st.map (mi_V ad))) := by
  unfold mi_p at hp
  split at hp
  next n => cases hp; exact lv_iconst hx hb hdg rfl (kk ls hl)
  next n => cases hp; exact lv_bipush hx hb hdg rfl (kk ls hl)
  next n => cases hp; exact lv_sipush hx hb hdg rfl (kk ls hl)
  next n => cases hp; exact lv_lconst hx hb hdg rfl (kk ls hl)
  next => cases hp; exact lv_null hx hb hdg (kk ls hl)
  next i => obtain ⟨x, e, rfl⟩ := mi_ld_i_eq hp; exact lv_iload hx hb hdg (mi_at_l hl e) (kk ls hl)
  next i => obtain ⟨x, e, rfl⟩ := mi_ld_i_eq hp; exact lv_iload_n hx hb hdg rfl (mi_at_l hl e) (kk ls hl)
  next i => obtain ⟨x, e, rfl⟩ := mi_ld_l_eq hp; exact lv_lload hx hb hdg (mi_at_l hl e) (kk ls hl)
  next i => obtain ⟨x, e, rfl⟩ := mi_ld_l_eq hp; exact lv_lload_n hx hb hdg rfl (mi_at_l hl e) (kk ls hl)
  next i => obtain ⟨x, e, rfl⟩ := mi_ld_f_eq hp; exact lv_fload hx hb hdg (mi_at_l hl e) (kk ls hl)
  next i => obtain ⟨x, e, rfl⟩ := mi_ld_f_eq hp; exact lv_fload_n hx hb hdg rfl (mi_at_l hl e) (kk ls hl)
  next i => obtain ⟨x, e, rfl⟩ := mi_ld_d_eq hp; exact lv_dload hx hb hdg (mi_at_l hl e) (kk ls hl)
  next i => obtain ⟨x, e, rfl⟩ := mi_ld_d_eq hp; exact lv_dload_n hx hb hdg rfl (mi_at_l hl e) (kk ls hl)
  next i => 
    rcases mi_ld_a_eq hp with ⟨x, e, rfl⟩ | ⟨e, rfl⟩
    · exact lv_aload hx hb hdg (mi_at_l hl e) (kk ls hl)
    · exact lv_aloadN hx hb hdg (mi_at_l hl e) (kk ls hl)
  next i => 
    rcases mi_ld_a_eq hp with ⟨x, e, rfl⟩ | ⟨e, rfl⟩
    · exact lv_aload_n hx hb hdg rfl (mi_at_l hl e) (kk ls hl)
    · exact lv_aload_nN hx hb hdg rfl (mi_at_l hl e) (kk ls hl)
  next i => obtain ⟨e, x, r, rfl, rfl⟩ := mi_st_i_eq hp; exact lv_istore hx hb hdg hl e (mi_s1_lv ad lv i (.int x)) kk
  next i => obtain ⟨e, x, r, rfl, rfl⟩ := mi_st_i_eq hp; exact lv_istore_n hx hb hdg rfl hl e (mi_s1_lv ad lv i (.int x)) kk
  next i => obtain ⟨e, x, r, rfl, rfl⟩ := mi_st_l_eq hp; exact lv_lstore hx hb hdg hl e (mi_s2_lv ad lv i (.long x)) kk
  next i => obtain ⟨e, x, r, rfl, rfl⟩ := mi_st_l_eq hp; exact lv_lstore_n hx hb hdg rfl hl e (mi_s2_lv ad lv i (.long x)) kk
  next i => obtain ⟨e, x, r, rfl, rfl⟩ := mi_st_f_eq hp; exact lv_fstore hx hb hdg hl e (mi_s1_lv ad lv i (.float x)) kk
  next i => obtain ⟨e, x, r, rfl, rfl⟩ := mi_st_f_eq hp; exact lv_fstore_n hx hb hdg rfl hl e (mi_s1_lv ad lv i (.float x)) kk
  next i => obtain ⟨e, x, r, rfl, rfl⟩ := mi_st_d_eq hp; exact lv_dstore hx hb hdg hl e (mi_s2_lv ad lv i (.double x)) kk
  next i => obtain ⟨e, x, r, rfl, rfl⟩ := mi_st_d_eq hp; exact lv_dstore_n hx hb hdg rfl hl e (mi_s2_lv ad lv i (.double x)) kk
  next i => 
    obtain ⟨e, ⟨x, r, rfl, rfl⟩ | ⟨r, rfl, rfl⟩⟩ := mi_st_a_eq hp
    · exact lv_astore hx hb hdg hl e (mi_s1_lv ad lv i (.ref x)) kk
    · exact lv_astoreN hx hb hdg hl e (mi_s1_lv ad lv i .null) kk
  next i => 
    obtain ⟨e, ⟨x, r, rfl, rfl⟩ | ⟨r, rfl, rfl⟩⟩ := mi_st_a_eq hp
    · exact lv_astore_n hx hb hdg rfl hl e (mi_s1_lv ad lv i (.ref x)) kk
    · exact lv_astore_nN hx hb hdg rfl hl e (mi_s1_lv ad lv i .null) kk
  next i n => obtain ⟨e, x, e2, rfl⟩ := mi_inc_eq hp; obtain ⟨j, hj⟩ := List.getElem?_of_mem (mi_mem_l (ad := ad) e2); exact lv_iinc hx hb hdg hl hj rfl e (mi_s1_lv ad lv i (.int (x + Int32.ofInt n))) kk
  next => obtain ⟨x, y, r, rfl, rfl⟩ := mi_fii_eq hp; exact lv_iadd hx hb hdg (kk ls hl)
  next => obtain ⟨x, y, r, rfl, rfl⟩ := mi_fii_eq hp; exact lv_isub hx hb hdg (kk ls hl)
  next => obtain ⟨x, y, r, rfl, rfl⟩ := mi_fii_eq hp; exact lv_imul hx hb hdg (kk ls hl)
  next => obtain ⟨x, y, r, rfl, rfl⟩ := mi_fii_eq hp; exact lv_iand hx hb hdg (kk ls hl)
  next => obtain ⟨x, y, r, rfl, rfl⟩ := mi_fii_eq hp; exact lv_ior hx hb hdg (kk ls hl)
  next => obtain ⟨x, y, r, rfl, rfl⟩ := mi_fii_eq hp; exact lv_ixor hx hb hdg (kk ls hl)
  next => obtain ⟨x, y, r, rfl, rfl⟩ := mi_fll_eq hp; exact lv_ladd hx hb hdg (kk ls hl)
  next => obtain ⟨x, y, r, rfl, rfl⟩ := mi_fll_eq hp; exact lv_lsub hx hb hdg (kk ls hl)
  next => obtain ⟨x, y, r, rfl, rfl⟩ := mi_fll_eq hp; exact lv_lmul hx hb hdg (kk ls hl)
  next => obtain ⟨x, y, r, rfl, rfl⟩ := mi_fll_eq hp; exact lv_land hx hb hdg (kk ls hl)
  next => obtain ⟨x, y, r, rfl, rfl⟩ := mi_fll_eq hp; exact lv_lor hx hb hdg (kk ls hl)
  next => obtain ⟨x, y, r, rfl, rfl⟩ := mi_fll_eq hp; exact lv_lxor hx hb hdg (kk ls hl)
  next => obtain ⟨x, y, r, rfl, rfl⟩ := mi_fii_eq hp; exact lv_ishl hx hb hdg (kk ls hl)
  next => obtain ⟨x, y, r, rfl, rfl⟩ := mi_fii_eq hp; exact lv_ishr hx hb hdg (kk ls hl)
  next => obtain ⟨x, y, r, rfl, rfl⟩ := mi_fii_eq hp; exact lv_iushr hx hb hdg rfl (kk ls hl)
  next => obtain ⟨x, y, r, rfl, rfl⟩ := mi_fli_eq hp; exact lv_lshl hx hb hdg rfl (kk ls hl)
  next => obtain ⟨x, y, r, rfl, rfl⟩ := mi_fli_eq hp; exact lv_lshr hx hb hdg rfl (kk ls hl)
  next => obtain ⟨x, y, r, rfl, rfl⟩ := mi_fli_eq hp; exact lv_lushr hx hb hdg rfl (kk ls hl)
  next => obtain ⟨x, r, rfl, rfl⟩ := mi_fi_eq hp; exact lv_ineg hx hb hdg (kk ls hl)
  next => obtain ⟨x, r, rfl, rfl⟩ := mi_fl_eq hp; exact lv_lneg hx hb hdg (kk ls hl)
  next => obtain ⟨x, r, rfl, rfl⟩ := mi_fil_eq hp; exact lv_i2l hx hb hdg rfl (kk ls hl)
  next => obtain ⟨x, r, rfl, rfl⟩ := mi_fl_i_eq hp; exact lv_l2i hx hb hdg rfl (kk ls hl)
  next => obtain ⟨x, y, r, rfl, rfl⟩ := mi_fll_i_eq hp; exact W.lcmp hx hb hdg (kk ls hl)
  next => obtain ⟨x, r, rfl, rfl⟩ := mi_fid_eq hp; exact lv_i2d hx hb hdg (kk ls hl)
  next => obtain ⟨x, r, rfl, rfl⟩ := mi_fd_i_eq hp; exact lv_d2i hx hb hdg (kk ls hl)
  next => obtain ⟨x, r, rfl, rfl⟩ := mi_fd_l_eq hp; exact lv_d2l hx hb hdg (kk ls hl)
  next => obtain ⟨x, r, rfl, rfl⟩ := mi_fif_eq hp; exact lv_i2f hx hb hdg (kk ls hl)
  next => obtain ⟨x, r, rfl, rfl⟩ := mi_fld_eq hp; exact lv_l2d hx hb hdg (kk ls hl)
  next o => obtain ⟨x, y, r, rfl, rfl⟩ := mi_fdd_i_eq hp; exact lv_dcmp hx hb hdg (kk ls hl)
  next o => obtain ⟨x, y, r, rfl, rfl⟩ := mi_fff_i_eq hp; exact lv_fcmp hx hb hdg (kk ls hl)
  next => obtain ⟨v, r, e, rfl, rfl⟩ := mi_pop_eq hp; exact lv_pop hx hb hdg ((mi_V_cat ad v).trans e) (kk ls hl)
  next => obtain ⟨v, r, e, rfl, rfl⟩ := mi_dup_eq hp; exact lv_dup hx hb hdg ((mi_V_cat ad v).trans e) (kk ls hl)
  next => obtain ⟨v, u, r, e, rfl, rfl⟩ := mi_dup_x1_eq hp; exact lv_dup_x1 hx hb hdg ((mi_V_cat ad v).trans e.1) ((mi_V_cat ad u).trans e.2) (kk ls hl)
  next => obtain ⟨v, u, r, e, rfl, rfl⟩ := mi_dup2_eq hp; exact lv_dup2_11 hx hb hdg ((mi_V_cat ad v).trans e.1) ((mi_V_cat ad u).trans e.2) (kk ls hl)
  next => obtain ⟨v, r, e, rfl, rfl⟩ := mi_pop2_eq hp; exact lv_pop2_2 hx hb hdg ((mi_V_cat ad v).trans e) (kk ls hl)
  next o => obtain ⟨t, e, h2⟩ := Option.map_eq_some_iff.mp hp; cases h2; exact lv_goto hx hb hdg (mi_jump_eq e) (kk ls hl)
  next n => cases hp; match n, hdg with | 0, hdg => exact lv_fconst0 hx hb hdg (kk ls hl) | 1, hdg => exact lv_fconst1 hx hb hdg (kk ls hl) | 2, hdg => exact lv_fconst2 hx hb hdg (kk ls hl)
  next n => cases hp; match n, hdg with | 0, hdg => exact lv_dconst0 hx hb hdg (kk ls hl) | 1, hdg => exact lv_dconst1 hx hb hdg (kk ls hl)
  next => cases hp
end MIP
end
section
-- a stretch of straight instructions
def mi_at (tb : List (Nat × Instr)) (pc : Nat) : Option Instr := match tb with
  | [] => none
  | q :: r => if q.1 = pc then some q.2 else mi_at r pc
theorem mi_at_mem {tb : List (Nat × Instr)} {pc : Nat} {i : Instr} (h : mi_at tb pc = some i) : (pc, i) ∈ tb := by
  induction tb with
  | nil => cases h
  | cons q r ih =>
    unfold mi_at at h
    by_cases e : q.1 = pc
    · rw [if_pos e] at h
      cases h
      subst e
      exact List.mem_cons_self
    · rw [if_neg e] at h
      exact List.mem_cons_of_mem _ (ih h)
def mi_run (nL : Nat) (tb : List (Nat × Instr)) : Nat → Nat → mi_L → List Value → mi_O
  | 0, pc, lv, st => some (pc, lv, st)
  | n + 1, pc, lv, st => match mi_at tb pc with
    | none => none
    | some i => match mi_p nL i pc lv st with
      | none => none
      | some z => mi_run nL tb n z.1 z.2.1 z.2.2
def mi_tb (cc : ByteArray) (tb : List (Nat × Instr)) : Prop := ∀ (pc : Nat) (i : Instr), (pc, i) ∈ tb → decode cc pc = .ok (i, mi_len i)
theorem mi_tb.of {cc : ByteArray} {tb : List (Nat × Instr)} (h : ∀ q ∈ tb, decode cc q.1 = .ok (q.2, mi_len q.2)) : mi_tb cc tb := fun pc i hm => h (pc, i) hm
theorem mi_run_W {p : Program} {l : Launch} {e : Env} {R : Room} {s : State} {m : MethodId} {args : Array Value} {below : List Frame} {meth : Method} {c : Code} {H : Heap} {locs : List Loc} {cells slots : Nat} {Q : State → Prop} {ad : Nat → Nat} {cc : ByteArray} {nL : Nat} {tb : List (Nat × Instr)} (ht : mi_tb cc tb) (hx : p.tables.exec = Jvm.exec) (hb : c.code = cc) {pc' : Nat} {lv' : mi_L} {st' : List Value}
    (kk : ∀ ls' : Array Slot, lv_has ls' nL (mi_lv ad lv') → W p l e R s m args below meth c H locs cells slots Q (F0 m pc' ls' (st'.map (mi_V ad)))) : ∀ (n pc : Nat) (lv : mi_L) (st : List Value) (ls : Array Slot), mi_run nL tb n pc lv st = some (pc', lv', st') → lv_has ls nL (mi_lv ad lv) → W p l e R s m args below meth c H locs cells slots Q (F0 m pc ls (st.map (mi_V ad)))
  | 0, pc, lv, st, ls, hr, hl => by
    cases hr
    exact kk ls hl
  | n + 1, pc, lv, st, ls, hr, hl => by
    unfold mi_run at hr
    split at hr
    next => cases hr
    next i e1 =>
      split at hr
      next => cases hr
      next z e2 =>
        exact mi_p_W (ad := ad) (cc := cc) (nL := nL) (i := i) (pc := pc) (lv := lv) (st := st) (z := z) (ls := ls) hx hb (ht pc i (mi_at_mem e1)) e2 hl (fun ls' hl' => mi_run_W ht hx hb kk n z.1 z.2.1 z.2.2 ls' hr hl')
theorem mi_blk {P : mi_P} {X : mi_X} {k d mc ms pc pc' : Nat} {lv lv' : mi_L} {st st' : List Value} {h : mi_H} {Q : Option Value → mi_H → Prop} {tb : List (Nat × Instr)} (ht : mi_tb (P.2.2.2.1 k).2.1 tb) (n : Nat) (hr : mi_run (P.2.2.2.1 k).2.2.1 tb n pc lv st = some (pc', lv', st'))
    (w : mi_W P X k d mc ms pc' lv' st' h Q) : mi_W P X k d mc ms pc lv st h Q := by
  intro p l e R s m args below meth c H locs cells slots Z D dA b0 xa ls F hS hc hs hR hl hZ
  exact mi_run_W ht F.1 F.2.1 (fun ls' hl' => w p l e R s m args below meth c H locs cells slots Z D dA b0 xa ls' F hS hc hs hR hl' hZ) n pc lv st ls hr hl
end
section
-- cells read and written
/-- a kind of objects of the program: its place, name, fields, their number and types -/
def mi_cf (P : mi_P) (ci : Nat) (C : String) (T : u_T) (N : Nat) (ty0 : Nat → FieldType) : Prop := P.1[ci]? = some (C, T, N) ∧ (∀ w ∈ u_ws C T N, w ∈ P.2.1) ∧ (∀ k, k < N → parseFieldDescriptor (T k).2.2.1 = some (ty0 k)) ∧ ∀ a, a < N → ∀ b, b < N → a ≠ b → (T a).2.1 ≠ (T b).2.1
/-- the entry 'index' of own's pool is the field j of the kind ci -/
def mi_fd (P : mi_P) (own : String) (index ci j : Nat) (fin : Bool) (ty : FieldType) : Prop := ∃ (C : String) (T : u_T) (N : Nat) (ty0 : Nat → FieldType), mi_cf P ci C T N ty0 ∧ j < N ∧ (T j).2.2.2 = fin ∧ ty0 j = ty ∧
  (Cond.fieldLink own index (T j).1 (T j).2.1 (T j).2.2.1 ∈ P.2.1 ∨ ∃ host, Cond.fieldLinkNest own index (T j).1 (T j).2.1 (T j).2.2.1 host ∈ P.2.2.1) ∧ (fin = true → (T j).1 = own ∧ Cond.fieldLink own index (T j).1 (T j).2.1 (T j).2.2.1 ∈ P.2.1)
theorem mi_tys_at {P : mi_P} {dA : Nat → ClassId} {t : Nat} {ty : FieldType} (h : P.2.2.2.2.1[t]? = some ty) : (mi_tys P dA)[t]? = some (dA t, ty) := by
  unfold mi_tys
  rw [List.getElem?_map, List.getElem?_zipIdx, h]
  simp
theorem mi_narrow {ty : FieldType} {v : Value} (ad : Nat → Nat) (h : narrow ty v = v) : narrow ty (mi_V ad v) = mi_V ad v := by
  cases v <;> first | exact h | (cases ty <;> rfl)
theorem mi_fits {ty : FieldType} {v : Value} (ad : Nat → Nat) (h : fits ty v = true) : fits ty (mi_V ad v) = true := by
  cases v <;> first | exact h | (cases ty <;> first | rfl | exact h)
theorem mi_R.put {P : mi_P} {D : va_G} {dA : Nat → ClassId} {b0 : Nat} {xa : Nat → Nat} {H H1 : Heap} {h : mi_H} {a : Nat} (hR : mi_R P D dA b0 xa H h) (hE : P.2.2.2.2.2.1 ≤ a) (ha : a < h.1) (c : mi_C) (e : va_at D P.1 (mi_ad P.2.2.2.2.2.1 b0 xa a, mi_e dA (mi_ad P.2.2.2.2.2.1 b0 xa) c) H1) (z : H1.size = H.size) (oq : ∀ q : Nat, q ≠ mi_ad P.2.2.2.2.2.1 b0 xa a → H1[q]? = H[q]?) : mi_R P D dA b0 xa H1 (h.1, va_up h.2 a c) := by
  obtain ⟨h1, h2, h3⟩ := hR
  refine ⟨h1, z.trans h2, ?_⟩
  rw [← mi_w_set hE ha c]
  exact h3.set mi_w_D (mi_w_at hE ha) e oq
theorem mi_ad_in {E b0 : Nat} {xa : Nat → Nat} {a : Nat} (h : E ≤ a) : b0 ≤ mi_ad E b0 xa a := by
  unfold mi_ad
  rw [if_neg (by omega)]
  omega
section MIH
variable {P : mi_P} {X : mi_X} {k d mc ms pc : Nat} {lv : mi_L} {st : List Value} {h : mi_H} {Q : Option Value → mi_H → Prop} {tb : List (Nat × Instr)}
set_option maxHeartbeats 4000000 in
theorem mi_getf (ht : mi_tb (P.2.2.2.1 k).2.1 tb) {index ci j a : Nat} {fin : Bool} {ty : FieldType} {fs : List Value} {v : Value} (hi : mi_at tb pc = some (.getfield index)) (fd : mi_fd P (P.2.2.2.1 k).1.cls index ci j fin ty) (hE : P.2.2.2.2.2.1 ≤ a) (ha : a < h.1) (hc : h.2 a = .inr (ci, fs)) (hv : fs[j]? = some v)
    (w : mi_W P X k d mc ms (pc + 3) lv (v :: st) h Q) : mi_W P X k d mc ms pc lv (.ref a :: st) h Q := by
  intro p l e R s m args below meth c H locs cells slots Z D dA b0 xa ls F hS hmc hms hR hl hZ
  obtain ⟨C, T, N, ty0, ⟨c1, c2, c3, c4⟩, f1, f2, f3, f4, -⟩ := fd
  have hw := w p l e R s m args below meth c H locs cells slots Z D dA b0 xa ls F hS hmc hms hR hl hZ
  obtain ⟨hx, hb, hml, hown, hts, hnm, -, -, -, -, hz0, hK, -, -, hN⟩ := F
  have hd := ht pc _ (mi_at_mem hi)
  have he := mi_w_at (dA := dA) (E := P.2.2.2.2.2.1) (b0 := b0) (xa := xa) (h := h) hE ha
  rw [hc] at he
  have hv' : (fs.map (mi_V (mi_ad P.2.2.2.2.2.1 b0 xa)))[j]? = some (mi_V (mi_ad P.2.2.2.2.2.1 b0 xa) v) := by rw [List.getElem?_map, hv]; rfl
  rcases f4 with f4 | ⟨host, f4⟩
  · exact va_get hx hb hts c2 hown hK hR.2.2 (a - P.2.2.2.2.2.1) he c1 j f1 (hts _ f4) (fun _ q => q) hv' hd hw
  · exact va_getN hx hb hts c2 hown hK hR.2.2 (a - P.2.2.2.2.2.1) he c1 j f1 (va_Nw.use rfl (hN _ f4)) (fun _ q => q) hv' hd hw
set_option maxHeartbeats 4000000 in
theorem mi_putf (ht : mi_tb (P.2.2.2.1 k).2.1 tb) {index ci j a : Nat} {ty : FieldType} {fs : List Value} {v : Value} (hi : mi_at tb pc = some (.putfield index)) (fd : mi_fd P (P.2.2.2.1 k).1.cls index ci j false ty) (hE : P.2.2.2.2.2.1 ≤ a) (ha : a < h.1) (hc : h.2 a = .inr (ci, fs)) (hj : j < fs.length) (hn : narrow ty v = v) (hf : fits ty v = true)
    (w : mi_W P X k d mc ms (pc + 3) lv st (h.1, va_up h.2 a (.inr (ci, fs.set j v))) Q) : mi_W P X k d mc ms pc lv (v :: .ref a :: st) h Q := by
  intro p l e R s m args below meth c H locs cells slots Z D dA b0 xa ls F hS hmc hms hR hl hZ
  obtain ⟨C, T, N, ty0, ⟨c1, c2, c3, c4⟩, f1, f2, f3, f4, -⟩ := fd
  have F0' := F
  obtain ⟨hx, hb, hml, hown, hts, hnm, -, -, -, -, hz0, hK, -, -, hN⟩ := F
  have hd := ht pc _ (mi_at_mem hi)
  have he := mi_w_at (dA := dA) (E := P.2.2.2.2.2.1) (b0 := b0) (xa := xa) (h := h) hE ha
  rw [hc] at he
  have hap := va_apart (own := (P.2.2.2.1 k).1.cls) hts c2 ty0 c3 c4 hK c1
  obtain ⟨r, h1, cell, q1, q2, q3, q4⟩ := hR.2.2 _ _ he
  have hr : r = (C, T, N) := Option.some.inj (h1.symm.trans c1)
  subst hr
  obtain ⟨hSf, hfc, kC, hkC, hkind⟩ := hK.1 ci _ c1
  obtain ⟨cf, kf, fi, f, hff, hsl⟩ := hSf j f1
  have hlay := hts _ (c2 _ (u_in_lay f1))
  unfold u_lay at hlay
  rw [if_neg (by rw [f2]; decide)] at hlay
  have hst := (u_facts hfc hkC (u_lays hts c2 f1) hff).1
  have h6 := u_store hfc hkC hkind hlay hff (by rw [c3 j f1, f3]) (mi_narrow (mi_ad P.2.2.2.2.2.1 b0 xa) hn) (mi_fits (mi_ad P.2.2.2.2.2.1 b0 xa) hf)
  have hlen : j < (fs.map (mi_V (mi_ad P.2.2.2.2.2.1 b0 xa))).length := by rw [List.length_map]; exact hj
  have kk : ∀ H' : Heap, H'[mi_ad P.2.2.2.2.2.1 b0 xa a]? = some (cell.setSlot f.slot (mi_V (mi_ad P.2.2.2.2.2.1 b0 xa) v)) → H'.size = H.size → (∀ q, q ≠ mi_ad P.2.2.2.2.2.1 b0 xa a → H'[q]? = H[q]?) → W p l e R s m args below meth c H' (locs ++ [⟨mi_ad P.2.2.2.2.2.1 b0 xa a, f.slot⟩]) cells slots Z (F0 m (pc + 3) ls (st.map (mi_V (mi_ad P.2.2.2.2.2.1 b0 xa)))) := by
    intro H' e1 e2 e3
    rw [hsl] at e1 ⊢
    refine w p l e R s m args below meth c H' _ cells slots Z D dA b0 xa ls F0' (hS.put e2 e3 (mi_ad_in hE)) hmc hms (hR.put hE ha _ ?_ e2 e3) hl hZ
    show va_at D P.1 (_, .inr (ci, (fs.set j v).map (mi_V (mi_ad P.2.2.2.2.2.1 b0 xa)))) H'
    rw [List.map_set]
    exact ⟨_, c1, t_OB.to (V := updV (vp_V _) j (mi_V (mi_ad P.2.2.2.2.2.1 b0 xa) v)) ⟨_, e1, q2, q3, t_set q4 hap f1 _⟩ (fun i _ => vp_updV_set hlen _ i)⟩
  rcases f4 with f4 | ⟨host, f4⟩
  · exact W.putK hx hb (f := f) ⟨hown, hts _ f4, ⟨_, _, _, hff⟩, hst⟩ (by rw [q2]; exact h6) q1 q3 (by rw [hsl]; exact k2_hasslot (q4 j f1)) rfl rfl hd kk
  · exact va_WputK hx hb (f := f) hown (va_Nw.use rfl (hN _ f4)) hff hst (by rw [q2]; exact h6) q1 q3 (by rw [hsl]; exact k2_hasslot (q4 j f1)) rfl rfl hd kk
set_option maxHeartbeats 4000000 in
theorem mi_putF (ht : mi_tb (P.2.2.2.1 k).2.1 tb) {index ci j a : Nat} {ty : FieldType} {fs : List Value} {v : Value} (hi : mi_at tb pc = some (.putfield index)) (fd : mi_fd P (P.2.2.2.1 k).1.cls index ci j true ty) (hnam : (P.2.2.2.1 k).1.name = "<init>") (hE : P.2.2.2.2.2.1 ≤ a) (ha : a < h.1) (hc : h.2 a = .inr (ci, fs)) (hj : j < fs.length) (hn : narrow ty v = v) (hf : fits ty v = true)
    (w : mi_W P X k d mc ms (pc + 3) lv st (h.1, va_up h.2 a (.inr (ci, fs.set j v))) Q) : mi_W P X k d mc ms pc lv (v :: .ref a :: st) h Q := by
  intro p l e R s m args below meth c H locs cells slots Z D dA b0 xa ls F hS hmc hms hR hl hZ
  obtain ⟨C, T, N, ty0, ⟨c1, c2, c3, c4⟩, f1, f2, f3, -, f5⟩ := fd
  obtain ⟨f5, f6⟩ := f5 rfl
  have F0' := F
  obtain ⟨hx, hb, hml, hown, hts, hnm, -, -, -, -, hz0, hK, -, -, hN⟩ := F
  have hd := ht pc _ (mi_at_mem hi)
  have he := mi_w_at (dA := dA) (E := P.2.2.2.2.2.1) (b0 := b0) (xa := xa) (h := h) hE ha
  rw [hc] at he
  have hap := va_apart (own := (P.2.2.2.1 k).1.cls) hts c2 ty0 c3 c4 hK c1
  obtain ⟨r, h1, cell, q1, q2, q3, q4⟩ := hR.2.2 _ _ he
  have hr : r = (C, T, N) := Option.some.inj (h1.symm.trans c1)
  subst hr
  obtain ⟨hSf, hfc, kC, hkC, hkind⟩ := hK.1 ci _ c1
  obtain ⟨cf, kf, fi, f, hff, hsl⟩ := hSf j f1
  have hlay := hts _ (c2 _ (u_in_lay f1))
  unfold u_lay at hlay
  rw [if_pos f2] at hlay
  have hst := (u_facts hfc hkC (u_lays hts c2 f1) hff).1
  have hcf : m.cls = cf := by
    obtain ⟨_, _, c', _, _, _, -, -, hf', -, -, -, hown2, -⟩ := Cond.laysFinal_spec hlay
    have e1 : c' = cf := by have := hff.symm.trans hf'; simp at this; exact this.1.symm
    rw [f5] at hown2
    rw [← e1]; exact Option.some.inj (hown.symm.trans hown2)
  have h6 := u_fits hfc hkC hkind (Or.inr hlay) hff (by rw [c3 j f1, f3]) (mi_narrow (mi_ad P.2.2.2.2.2.1 b0 xa) hn) (mi_fits (mi_ad P.2.2.2.2.2.1 b0 xa) hf)
  have hlen : j < (fs.map (mi_V (mi_ad P.2.2.2.2.2.1 b0 xa))).length := by rw [List.length_map]; exact hj
  refine W.putFinK hx hb hown (hts _ f6) hff hst hcf (hnm.trans hnam) (by rw [q2]; exact h6) q1 q3 (by rw [hsl]; exact k2_hasslot (q4 j f1)) rfl rfl hd fun H' e1 e2 e3 => ?_
  rw [hsl] at e1 ⊢
  refine w p l e R s m args below meth c H' _ cells slots Z D dA b0 xa ls F0' (hS.put e2 e3 (mi_ad_in hE)) hmc hms (hR.put hE ha _ ?_ e2 e3) hl hZ
  show va_at D P.1 (_, .inr (ci, (fs.set j v).map (mi_V (mi_ad P.2.2.2.2.2.1 b0 xa)))) H'
  rw [List.map_set]
  exact ⟨_, c1, t_OB.to (V := updV (vp_V _) j (mi_V (mi_ad P.2.2.2.2.2.1 b0 xa) v)) ⟨_, e1, q2, q3, t_set q4 hap f1 _⟩ (fun i _ => vp_updV_set hlen _ i)⟩
end MIH
end
section
section MIR
variable {P : mi_P} {X : mi_X} {k d mc ms pc : Nat} {lv : mi_L} {st : List Value} {h : mi_H} {Q : Option Value → mi_H → Prop} {tb : List (Nat × Instr)}
theorem mi_if_eq (ht : mi_tb (P.2.2.2.1 k).2.1 tb) {x : Int32} {off : Int} {tgt : Nat} (hi : mi_at tb pc = some (.ifCond .eq off)) (hj : mi_jump pc off = some tgt) (kt : x = 0 → mi_W P X k d mc ms tgt lv st h Q) (kf : ¬ x = 0 → mi_W P X k d mc ms (pc + 3) lv st h Q) : mi_W P X k d mc ms pc lv (.int x :: st) h Q := by
  intro p l e R s m args below meth c H locs cells slots Z D dA b0 xa ls F hS hmc hms hR hl hZ
  exact lv_if_eq F.1 F.2.1 (ht pc _ (mi_at_mem hi)) (mi_jump_eq hj) (fun q => kt q p l e R s m args below meth c H locs cells slots Z D dA b0 xa ls F hS hmc hms hR hl hZ) (fun q => kf q p l e R s m args below meth c H locs cells slots Z D dA b0 xa ls F hS hmc hms hR hl hZ)
theorem mi_ic_eq (ht : mi_tb (P.2.2.2.1 k).2.1 tb) {x y : Int32} {off : Int} {tgt : Nat} (hi : mi_at tb pc = some (.if_icmp .eq off)) (hj : mi_jump pc off = some tgt) (kt : x = y → mi_W P X k d mc ms tgt lv st h Q) (kf : ¬ x = y → mi_W P X k d mc ms (pc + 3) lv st h Q) : mi_W P X k d mc ms pc lv (.int y :: .int x :: st) h Q := by
  intro p l e R s m args below meth c H locs cells slots Z D dA b0 xa ls F hS hmc hms hR hl hZ
  exact lv_icmp_eq F.1 F.2.1 (ht pc _ (mi_at_mem hi)) (mi_jump_eq hj) (fun q => kt q p l e R s m args below meth c H locs cells slots Z D dA b0 xa ls F hS hmc hms hR hl hZ) (fun q => kf q p l e R s m args below meth c H locs cells slots Z D dA b0 xa ls F hS hmc hms hR hl hZ)
theorem mi_if_ne (ht : mi_tb (P.2.2.2.1 k).2.1 tb) {x : Int32} {off : Int} {tgt : Nat} (hi : mi_at tb pc = some (.ifCond .ne off)) (hj : mi_jump pc off = some tgt) (kt : ¬ x = 0 → mi_W P X k d mc ms tgt lv st h Q) (kf : x = 0 → mi_W P X k d mc ms (pc + 3) lv st h Q) : mi_W P X k d mc ms pc lv (.int x :: st) h Q := by
  intro p l e R s m args below meth c H locs cells slots Z D dA b0 xa ls F hS hmc hms hR hl hZ
  exact lv_if_ne F.1 F.2.1 (ht pc _ (mi_at_mem hi)) (mi_jump_eq hj) (fun q => kt q p l e R s m args below meth c H locs cells slots Z D dA b0 xa ls F hS hmc hms hR hl hZ) (fun q => kf q p l e R s m args below meth c H locs cells slots Z D dA b0 xa ls F hS hmc hms hR hl hZ)
theorem mi_ic_ne (ht : mi_tb (P.2.2.2.1 k).2.1 tb) {x y : Int32} {off : Int} {tgt : Nat} (hi : mi_at tb pc = some (.if_icmp .ne off)) (hj : mi_jump pc off = some tgt) (kt : ¬ x = y → mi_W P X k d mc ms tgt lv st h Q) (kf : x = y → mi_W P X k d mc ms (pc + 3) lv st h Q) : mi_W P X k d mc ms pc lv (.int y :: .int x :: st) h Q := by
  intro p l e R s m args below meth c H locs cells slots Z D dA b0 xa ls F hS hmc hms hR hl hZ
  exact lv_icmp_ne F.1 F.2.1 (ht pc _ (mi_at_mem hi)) (mi_jump_eq hj) (fun q => kt q p l e R s m args below meth c H locs cells slots Z D dA b0 xa ls F hS hmc hms hR hl hZ) (fun q => kf q p l e R s m args below meth c H locs cells slots Z D dA b0 xa ls F hS hmc hms hR hl hZ)
theorem mi_if_lt (ht : mi_tb (P.2.2.2.1 k).2.1 tb) {x : Int32} {off : Int} {tgt : Nat} (hi : mi_at tb pc = some (.ifCond .lt off)) (hj : mi_jump pc off = some tgt) (kt : x < 0 → mi_W P X k d mc ms tgt lv st h Q) (kf : ¬ x < 0 → mi_W P X k d mc ms (pc + 3) lv st h Q) : mi_W P X k d mc ms pc lv (.int x :: st) h Q := by
  intro p l e R s m args below meth c H locs cells slots Z D dA b0 xa ls F hS hmc hms hR hl hZ
  exact lv_if_lt F.1 F.2.1 (ht pc _ (mi_at_mem hi)) (mi_jump_eq hj) (fun q => kt q p l e R s m args below meth c H locs cells slots Z D dA b0 xa ls F hS hmc hms hR hl hZ) (fun q => kf q p l e R s m args below meth c H locs cells slots Z D dA b0 xa ls F hS hmc hms hR hl hZ)
theorem mi_ic_lt (ht : mi_tb (P.2.2.2.1 k).2.1 tb) {x y : Int32} {off : Int} {tgt : Nat} (hi : mi_at tb pc = some (.if_icmp .lt off)) (hj : mi_jump pc off = some tgt) (kt : x < y → mi_W P X k d mc ms tgt lv st h Q) (kf : ¬ x < y → mi_W P X k d mc ms (pc + 3) lv st h Q) : mi_W P X k d mc ms pc lv (.int y :: .int x :: st) h Q := by
  intro p l e R s m args below meth c H locs cells slots Z D dA b0 xa ls F hS hmc hms hR hl hZ
  exact lv_icmp_lt F.1 F.2.1 (ht pc _ (mi_at_mem hi)) (mi_jump_eq hj) (fun q => kt q p l e R s m args below meth c H locs cells slots Z D dA b0 xa ls F hS hmc hms hR hl hZ) (fun q => kf q p l e R s m args below meth c H locs cells slots Z D dA b0 xa ls F hS hmc hms hR hl hZ)
theorem mi_if_ge (ht : mi_tb (P.2.2.2.1 k).2.1 tb) {x : Int32} {off : Int} {tgt : Nat} (hi : mi_at tb pc = some (.ifCond .ge off)) (hj : mi_jump pc off = some tgt) (kt : 0 ≤ x → mi_W P X k d mc ms tgt lv st h Q) (kf : ¬ 0 ≤ x → mi_W P X k d mc ms (pc + 3) lv st h Q) : mi_W P X k d mc ms pc lv (.int x :: st) h Q := by
  intro p l e R s m args below meth c H locs cells slots Z D dA b0 xa ls F hS hmc hms hR hl hZ
  exact lv_if_ge F.1 F.2.1 (ht pc _ (mi_at_mem hi)) (mi_jump_eq hj) (fun q => kt q p l e R s m args below meth c H locs cells slots Z D dA b0 xa ls F hS hmc hms hR hl hZ) (fun q => kf q p l e R s m args below meth c H locs cells slots Z D dA b0 xa ls F hS hmc hms hR hl hZ)
theorem mi_ic_ge (ht : mi_tb (P.2.2.2.1 k).2.1 tb) {x y : Int32} {off : Int} {tgt : Nat} (hi : mi_at tb pc = some (.if_icmp .ge off)) (hj : mi_jump pc off = some tgt) (kt : y ≤ x → mi_W P X k d mc ms tgt lv st h Q) (kf : ¬ y ≤ x → mi_W P X k d mc ms (pc + 3) lv st h Q) : mi_W P X k d mc ms pc lv (.int y :: .int x :: st) h Q := by
  intro p l e R s m args below meth c H locs cells slots Z D dA b0 xa ls F hS hmc hms hR hl hZ
  exact lv_icmp_ge F.1 F.2.1 (ht pc _ (mi_at_mem hi)) (mi_jump_eq hj) (fun q => kt q p l e R s m args below meth c H locs cells slots Z D dA b0 xa ls F hS hmc hms hR hl hZ) (fun q => kf q p l e R s m args below meth c H locs cells slots Z D dA b0 xa ls F hS hmc hms hR hl hZ)
theorem mi_if_gt (ht : mi_tb (P.2.2.2.1 k).2.1 tb) {x : Int32} {off : Int} {tgt : Nat} (hi : mi_at tb pc = some (.ifCond .gt off)) (hj : mi_jump pc off = some tgt) (kt : 0 < x → mi_W P X k d mc ms tgt lv st h Q) (kf : ¬ 0 < x → mi_W P X k d mc ms (pc + 3) lv st h Q) : mi_W P X k d mc ms pc lv (.int x :: st) h Q := by
  intro p l e R s m args below meth c H locs cells slots Z D dA b0 xa ls F hS hmc hms hR hl hZ
  exact lv_if_gt F.1 F.2.1 (ht pc _ (mi_at_mem hi)) (mi_jump_eq hj) (fun q => kt q p l e R s m args below meth c H locs cells slots Z D dA b0 xa ls F hS hmc hms hR hl hZ) (fun q => kf q p l e R s m args below meth c H locs cells slots Z D dA b0 xa ls F hS hmc hms hR hl hZ)
theorem mi_ic_gt (ht : mi_tb (P.2.2.2.1 k).2.1 tb) {x y : Int32} {off : Int} {tgt : Nat} (hi : mi_at tb pc = some (.if_icmp .gt off)) (hj : mi_jump pc off = some tgt) (kt : y < x → mi_W P X k d mc ms tgt lv st h Q) (kf : ¬ y < x → mi_W P X k d mc ms (pc + 3) lv st h Q) : mi_W P X k d mc ms pc lv (.int y :: .int x :: st) h Q := by
  intro p l e R s m args below meth c H locs cells slots Z D dA b0 xa ls F hS hmc hms hR hl hZ
  exact lv_icmp_gt F.1 F.2.1 (ht pc _ (mi_at_mem hi)) (mi_jump_eq hj) (fun q => kt q p l e R s m args below meth c H locs cells slots Z D dA b0 xa ls F hS hmc hms hR hl hZ) (fun q => kf q p l e R s m args below meth c H locs cells slots Z D dA b0 xa ls F hS hmc hms hR hl hZ)
theorem mi_if_le (ht : mi_tb (P.2.2.2.1 k).2.1 tb) {x : Int32} {off : Int} {tgt : Nat} (hi : mi_at tb pc = some (.ifCond .le off)) (hj : mi_jump pc off = some tgt) (kt : x ≤ 0 → mi_W P X k d mc ms tgt lv st h Q) (kf : ¬ x ≤ 0 → mi_W P X k d mc ms (pc + 3) lv st h Q) : mi_W P X k d mc ms pc lv (.int x :: st) h Q := by
  intro p l e R s m args below meth c H locs cells slots Z D dA b0 xa ls F hS hmc hms hR hl hZ
  exact lv_if_le F.1 F.2.1 (ht pc _ (mi_at_mem hi)) (mi_jump_eq hj) (fun q => kt q p l e R s m args below meth c H locs cells slots Z D dA b0 xa ls F hS hmc hms hR hl hZ) (fun q => kf q p l e R s m args below meth c H locs cells slots Z D dA b0 xa ls F hS hmc hms hR hl hZ)
theorem mi_ic_le (ht : mi_tb (P.2.2.2.1 k).2.1 tb) {x y : Int32} {off : Int} {tgt : Nat} (hi : mi_at tb pc = some (.if_icmp .le off)) (hj : mi_jump pc off = some tgt) (kt : x ≤ y → mi_W P X k d mc ms tgt lv st h Q) (kf : ¬ x ≤ y → mi_W P X k d mc ms (pc + 3) lv st h Q) : mi_W P X k d mc ms pc lv (.int y :: .int x :: st) h Q := by
  intro p l e R s m args below meth c H locs cells slots Z D dA b0 xa ls F hS hmc hms hR hl hZ
  exact lv_icmp_le F.1 F.2.1 (ht pc _ (mi_at_mem hi)) (mi_jump_eq hj) (fun q => kt q p l e R s m args below meth c H locs cells slots Z D dA b0 xa ls F hS hmc hms hR hl hZ) (fun q => kf q p l e R s m args below meth c H locs cells slots Z D dA b0 xa ls F hS hmc hms hR hl hZ)
theorem mi_ifnull_r (ht : mi_tb (P.2.2.2.1 k).2.1 tb) {a : Nat} {off : Int} (hi : mi_at tb pc = some (.ifnull off)) (kk : mi_W P X k d mc ms (pc + 3) lv st h Q) : mi_W P X k d mc ms pc lv (.ref a :: st) h Q := by
  intro p l e R s m args below meth c H locs cells slots Z D dA b0 xa ls F hS hmc hms hR hl hZ
  exact lv_ifnull F.1 F.2.1 (ht pc _ (mi_at_mem hi)) (kk p l e R s m args below meth c H locs cells slots Z D dA b0 xa ls F hS hmc hms hR hl hZ)
theorem mi_ifnull_n (ht : mi_tb (P.2.2.2.1 k).2.1 tb) {off : Int} {tgt : Nat} (hi : mi_at tb pc = some (.ifnull off)) (hj : mi_jump pc off = some tgt) (kk : mi_W P X k d mc ms tgt lv st h Q) : mi_W P X k d mc ms pc lv (.null :: st) h Q := by
  intro p l e R s m args below meth c H locs cells slots Z D dA b0 xa ls F hS hmc hms hR hl hZ
  exact lv_ifnullN F.1 F.2.1 (ht pc _ (mi_at_mem hi)) (mi_jump_eq hj) (kk p l e R s m args below meth c H locs cells slots Z D dA b0 xa ls F hS hmc hms hR hl hZ)
theorem mi_ifnonnull_r (ht : mi_tb (P.2.2.2.1 k).2.1 tb) {a : Nat} {off : Int} {tgt : Nat} (hi : mi_at tb pc = some (.ifnonnull off)) (hj : mi_jump pc off = some tgt) (kk : mi_W P X k d mc ms tgt lv st h Q) : mi_W P X k d mc ms pc lv (.ref a :: st) h Q := by
  intro p l e R s m args below meth c H locs cells slots Z D dA b0 xa ls F hS hmc hms hR hl hZ
  exact lv_ifnonnull F.1 F.2.1 (ht pc _ (mi_at_mem hi)) (mi_jump_eq hj) (kk p l e R s m args below meth c H locs cells slots Z D dA b0 xa ls F hS hmc hms hR hl hZ)
theorem mi_ifnonnull_n (ht : mi_tb (P.2.2.2.1 k).2.1 tb) {off : Int} (hi : mi_at tb pc = some (.ifnonnull off)) (kk : mi_W P X k d mc ms (pc + 3) lv st h Q) : mi_W P X k d mc ms pc lv (.null :: st) h Q := by
  intro p l e R s m args below meth c H locs cells slots Z D dA b0 xa ls F hS hmc hms hR hl hZ
  exact lv_ifnonnullN F.1 F.2.1 (ht pc _ (mi_at_mem hi)) (kk p l e R s m args below meth c H locs cells slots Z D dA b0 xa ls F hS hmc hms hR hl hZ)
theorem mi_swout {dflt lo hi : Int} {offs : Array Int} {len : Nat} {x : Int32} {tgt : Nat} (hdg : decode (P.2.2.2.1 k).2.1 pc = .ok (.tableswitch dflt lo hi offs, len)) (hx : x.toInt < lo ∨ hi < x.toInt) (hj : mi_jump pc dflt = some tgt) (kk : mi_W P X k d mc ms tgt lv st h Q) : mi_W P X k d mc ms pc lv (.int x :: st) h Q := by
  intro p l e R s m args below meth c H locs cells slots Z D dA b0 xa ls F hS hmc hms hR hl hZ
  exact lv_tableOut F.1 F.2.1 hdg hx (mi_jump_eq hj) (kk p l e R s m args below meth c H locs cells slots Z D dA b0 xa ls F hS hmc hms hR hl hZ)
theorem mi_swin {dflt lo hi : Int} {offs : Array Int} {len : Nat} {x : Int32} {off : Int} {tgt : Nat} (hdg : decode (P.2.2.2.1 k).2.1 pc = .ok (.tableswitch dflt lo hi offs, len)) (h1 : ¬ x.toInt < lo) (h2 : ¬ hi < x.toInt) (ho : offs[(x.toInt - lo).toNat]? = some off) (hj : mi_jump pc off = some tgt) (kk : mi_W P X k d mc ms tgt lv st h Q) : mi_W P X k d mc ms pc lv (.int x :: st) h Q := by
  intro p l e R s m args below meth c H locs cells slots Z D dA b0 xa ls F hS hmc hms hR hl hZ
  exact lv_tableIn F.1 F.2.1 hdg h1 h2 ho (mi_jump_eq hj) (kk p l e R s m args below meth c H locs cells slots Z D dA b0 xa ls F hS hmc hms hR hl hZ)
theorem mi_ldc (ht : mi_tb (P.2.2.2.1 k).2.1 tb) {index : Nat} {v : Int32} (hi : mi_at tb pc = some (.ldc index)) (hc : Jvm.Cond.constant (P.2.2.2.1 k).1.cls index v ∈ P.2.1) (kk : mi_W P X k d mc ms (pc + 2) lv (.int v :: st) h Q) : mi_W P X k d mc ms pc lv st h Q := by
  intro p l e R s m args below meth c H locs cells slots Z D dA b0 xa ls F hS hmc hms hR hl hZ
  exact lv_ldc F.1 F.2.1 F.2.2.2.1 (F.2.2.2.2.1 _ hc) (ht pc _ (mi_at_mem hi)) (kk p l e R s m args below meth c H locs cells slots Z D dA b0 xa ls F hS hmc hms hR hl hZ)
theorem mi_ldcw (ht : mi_tb (P.2.2.2.1 k).2.1 tb) {index : Nat} {v : Int32} (hi : mi_at tb pc = some (.ldc_w index)) (hc : Jvm.Cond.constant (P.2.2.2.1 k).1.cls index v ∈ P.2.1) (kk : mi_W P X k d mc ms (pc + 3) lv (.int v :: st) h Q) : mi_W P X k d mc ms pc lv st h Q := by
  intro p l e R s m args below meth c H locs cells slots Z D dA b0 xa ls F hS hmc hms hR hl hZ
  exact lv_ldcw F.1 F.2.1 F.2.2.2.1 (F.2.2.2.2.1 _ hc) (ht pc _ (mi_at_mem hi)) (kk p l e R s m args below meth c H locs cells slots Z D dA b0 xa ls F hS hmc hms hR hl hZ)
theorem mi_ldcf (ht : mi_tb (P.2.2.2.1 k).2.1 tb) {index : Nat} {v : UInt32} (hi : mi_at tb pc = some (.ldc index)) (hc : Jvm.Cond.constantFloat (P.2.2.2.1 k).1.cls index v ∈ P.2.1) (kk : mi_W P X k d mc ms (pc + 2) lv (.float v :: st) h Q) : mi_W P X k d mc ms pc lv st h Q := by
  intro p l e R s m args below meth c H locs cells slots Z D dA b0 xa ls F hS hmc hms hR hl hZ
  exact lv_ldcf F.1 F.2.1 F.2.2.2.1 (F.2.2.2.2.1 _ hc) (ht pc _ (mi_at_mem hi)) (kk p l e R s m args below meth c H locs cells slots Z D dA b0 xa ls F hS hmc hms hR hl hZ)
theorem mi_ldc2 (ht : mi_tb (P.2.2.2.1 k).2.1 tb) {index : Nat} {v : Int64} (hi : mi_at tb pc = some (.ldc2_w index)) (hc : Jvm.Cond.constantLong (P.2.2.2.1 k).1.cls index v ∈ P.2.1) (kk : mi_W P X k d mc ms (pc + 3) lv (.long v :: st) h Q) : mi_W P X k d mc ms pc lv st h Q := by
  intro p l e R s m args below meth c H locs cells slots Z D dA b0 xa ls F hS hmc hms hR hl hZ
  exact lv_ldc2 F.1 F.2.1 F.2.2.2.1 (F.2.2.2.2.1 _ hc) (ht pc _ (mi_at_mem hi)) (kk p l e R s m args below meth c H locs cells slots Z D dA b0 xa ls F hS hmc hms hR hl hZ)
theorem mi_ldc2d (ht : mi_tb (P.2.2.2.1 k).2.1 tb) {index : Nat} {v : UInt64} (hi : mi_at tb pc = some (.ldc2_w index)) (hc : Jvm.Cond.constantDouble (P.2.2.2.1 k).1.cls index v ∈ P.2.1) (kk : mi_W P X k d mc ms (pc + 3) lv (.double v :: st) h Q) : mi_W P X k d mc ms pc lv st h Q := by
  intro p l e R s m args below meth c H locs cells slots Z D dA b0 xa ls F hS hmc hms hR hl hZ
  exact lv_ldc2d F.1 F.2.1 F.2.2.2.1 (F.2.2.2.2.1 _ hc) (ht pc _ (mi_at_mem hi)) (kk p l e R s m args below meth c H locs cells slots Z D dA b0 xa ls F hS hmc hms hR hl hZ)
theorem mi_idiv (ht : mi_tb (P.2.2.2.1 k).2.1 tb) {x y : Int32} (hi : mi_at tb pc = some .idiv) (hne : ¬ y = 0) (kk : mi_W P X k d mc ms (pc + 1) lv (.int (x / y) :: st) h Q) : mi_W P X k d mc ms pc lv (.int y :: .int x :: st) h Q := by
  intro p l e R s m args below meth c H locs cells slots Z D dA b0 xa ls F hS hmc hms hR hl hZ
  exact lv_idiv F.1 F.2.1 (ht pc _ (mi_at_mem hi)) hne (kk p l e R s m args below meth c H locs cells slots Z D dA b0 xa ls F hS hmc hms hR hl hZ)
theorem mi_irem (ht : mi_tb (P.2.2.2.1 k).2.1 tb) {x y : Int32} (hi : mi_at tb pc = some .irem) (hne : ¬ y = 0) (kk : mi_W P X k d mc ms (pc + 1) lv (.int (x - x / y * y) :: st) h Q) : mi_W P X k d mc ms pc lv (.int y :: .int x :: st) h Q := by
  intro p l e R s m args below meth c H locs cells slots Z D dA b0 xa ls F hS hmc hms hR hl hZ
  exact lv_irem F.1 F.2.1 (ht pc _ (mi_at_mem hi)) hne (kk p l e R s m args below meth c H locs cells slots Z D dA b0 xa ls F hS hmc hms hR hl hZ)
theorem mi_ldiv (ht : mi_tb (P.2.2.2.1 k).2.1 tb) {x y : Int64} (hi : mi_at tb pc = some .ldiv) (hne : ¬ y = 0) (kk : mi_W P X k d mc ms (pc + 1) lv (.long (x / y) :: st) h Q) : mi_W P X k d mc ms pc lv (.long y :: .long x :: st) h Q := by
  intro p l e R s m args below meth c H locs cells slots Z D dA b0 xa ls F hS hmc hms hR hl hZ
  exact lv_ldiv F.1 F.2.1 (ht pc _ (mi_at_mem hi)) hne (kk p l e R s m args below meth c H locs cells slots Z D dA b0 xa ls F hS hmc hms hR hl hZ)
theorem mi_lrem (ht : mi_tb (P.2.2.2.1 k).2.1 tb) {x y : Int64} (hi : mi_at tb pc = some .lrem) (hne : ¬ y = 0) (kk : mi_W P X k d mc ms (pc + 1) lv (.long (x - x / y * y) :: st) h Q) : mi_W P X k d mc ms pc lv (.long y :: .long x :: st) h Q := by
  intro p l e R s m args below meth c H locs cells slots Z D dA b0 xa ls F hS hmc hms hR hl hZ
  exact lv_lrem F.1 F.2.1 (ht pc _ (mi_at_mem hi)) hne (kk p l e R s m args below meth c H locs cells slots Z D dA b0 xa ls F hS hmc hms hR hl hZ)
theorem mi_dadd (ht : mi_tb (P.2.2.2.1 k).2.1 tb) {x y : UInt64} (hi : mi_at tb pc = some .dadd) (hne : vf_n64 (FP.dadd x y)) (kk : mi_W P X k d mc ms (pc + 1) lv (.double (FP.dadd x y) :: st) h Q) : mi_W P X k d mc ms pc lv (.double y :: .double x :: st) h Q := by
  intro p l e R s m args below meth c H locs cells slots Z D dA b0 xa ls F hS hmc hms hR hl hZ
  exact lv_dadd F.1 F.2.1 (ht pc _ (mi_at_mem hi)) hne (kk p l e R s m args below meth c H locs cells slots Z D dA b0 xa ls F hS hmc hms hR hl hZ)
theorem mi_dsub (ht : mi_tb (P.2.2.2.1 k).2.1 tb) {x y : UInt64} (hi : mi_at tb pc = some .dsub) (hne : vf_n64 (FP.dsub x y)) (kk : mi_W P X k d mc ms (pc + 1) lv (.double (FP.dsub x y) :: st) h Q) : mi_W P X k d mc ms pc lv (.double y :: .double x :: st) h Q := by
  intro p l e R s m args below meth c H locs cells slots Z D dA b0 xa ls F hS hmc hms hR hl hZ
  exact lv_dsub F.1 F.2.1 (ht pc _ (mi_at_mem hi)) hne (kk p l e R s m args below meth c H locs cells slots Z D dA b0 xa ls F hS hmc hms hR hl hZ)
theorem mi_dmul (ht : mi_tb (P.2.2.2.1 k).2.1 tb) {x y : UInt64} (hi : mi_at tb pc = some .dmul) (hne : vf_n64 (FP.dmul x y)) (kk : mi_W P X k d mc ms (pc + 1) lv (.double (FP.dmul x y) :: st) h Q) : mi_W P X k d mc ms pc lv (.double y :: .double x :: st) h Q := by
  intro p l e R s m args below meth c H locs cells slots Z D dA b0 xa ls F hS hmc hms hR hl hZ
  exact lv_dmul F.1 F.2.1 (ht pc _ (mi_at_mem hi)) hne (kk p l e R s m args below meth c H locs cells slots Z D dA b0 xa ls F hS hmc hms hR hl hZ)
theorem mi_ddiv (ht : mi_tb (P.2.2.2.1 k).2.1 tb) {x y : UInt64} (hi : mi_at tb pc = some .ddiv) (hne : vf_n64 (FP.ddiv x y)) (kk : mi_W P X k d mc ms (pc + 1) lv (.double (FP.ddiv x y) :: st) h Q) : mi_W P X k d mc ms pc lv (.double y :: .double x :: st) h Q := by
  intro p l e R s m args below meth c H locs cells slots Z D dA b0 xa ls F hS hmc hms hR hl hZ
  exact lv_ddiv F.1 F.2.1 (ht pc _ (mi_at_mem hi)) hne (kk p l e R s m args below meth c H locs cells slots Z D dA b0 xa ls F hS hmc hms hR hl hZ)
theorem mi_drem (ht : mi_tb (P.2.2.2.1 k).2.1 tb) {x y : UInt64} (hi : mi_at tb pc = some .drem) (hne : vf_n64 (FP.drem x y)) (kk : mi_W P X k d mc ms (pc + 1) lv (.double (FP.drem x y) :: st) h Q) : mi_W P X k d mc ms pc lv (.double y :: .double x :: st) h Q := by
  intro p l e R s m args below meth c H locs cells slots Z D dA b0 xa ls F hS hmc hms hR hl hZ
  exact lv_drem F.1 F.2.1 (ht pc _ (mi_at_mem hi)) hne (kk p l e R s m args below meth c H locs cells slots Z D dA b0 xa ls F hS hmc hms hR hl hZ)
theorem mi_fadd (ht : mi_tb (P.2.2.2.1 k).2.1 tb) {x y : UInt32} (hi : mi_at tb pc = some .fadd) (hne : vf_n32 (FP.fadd x y)) (kk : mi_W P X k d mc ms (pc + 1) lv (.float (FP.fadd x y) :: st) h Q) : mi_W P X k d mc ms pc lv (.float y :: .float x :: st) h Q := by
  intro p l e R s m args below meth c H locs cells slots Z D dA b0 xa ls F hS hmc hms hR hl hZ
  exact lv_fadd F.1 F.2.1 (ht pc _ (mi_at_mem hi)) hne (kk p l e R s m args below meth c H locs cells slots Z D dA b0 xa ls F hS hmc hms hR hl hZ)
theorem mi_fsub (ht : mi_tb (P.2.2.2.1 k).2.1 tb) {x y : UInt32} (hi : mi_at tb pc = some .fsub) (hne : vf_n32 (FP.fsub x y)) (kk : mi_W P X k d mc ms (pc + 1) lv (.float (FP.fsub x y) :: st) h Q) : mi_W P X k d mc ms pc lv (.float y :: .float x :: st) h Q := by
  intro p l e R s m args below meth c H locs cells slots Z D dA b0 xa ls F hS hmc hms hR hl hZ
  exact lv_fsub F.1 F.2.1 (ht pc _ (mi_at_mem hi)) hne (kk p l e R s m args below meth c H locs cells slots Z D dA b0 xa ls F hS hmc hms hR hl hZ)
theorem mi_fmul (ht : mi_tb (P.2.2.2.1 k).2.1 tb) {x y : UInt32} (hi : mi_at tb pc = some .fmul) (hne : vf_n32 (FP.fmul x y)) (kk : mi_W P X k d mc ms (pc + 1) lv (.float (FP.fmul x y) :: st) h Q) : mi_W P X k d mc ms pc lv (.float y :: .float x :: st) h Q := by
  intro p l e R s m args below meth c H locs cells slots Z D dA b0 xa ls F hS hmc hms hR hl hZ
  exact lv_fmul F.1 F.2.1 (ht pc _ (mi_at_mem hi)) hne (kk p l e R s m args below meth c H locs cells slots Z D dA b0 xa ls F hS hmc hms hR hl hZ)
theorem mi_fdiv (ht : mi_tb (P.2.2.2.1 k).2.1 tb) {x y : UInt32} (hi : mi_at tb pc = some .fdiv) (hne : vf_n32 (FP.fdiv x y)) (kk : mi_W P X k d mc ms (pc + 1) lv (.float (FP.fdiv x y) :: st) h Q) : mi_W P X k d mc ms pc lv (.float y :: .float x :: st) h Q := by
  intro p l e R s m args below meth c H locs cells slots Z D dA b0 xa ls F hS hmc hms hR hl hZ
  exact lv_fdiv F.1 F.2.1 (ht pc _ (mi_at_mem hi)) hne (kk p l e R s m args below meth c H locs cells slots Z D dA b0 xa ls F hS hmc hms hR hl hZ)
theorem mi_frem (ht : mi_tb (P.2.2.2.1 k).2.1 tb) {x y : UInt32} (hi : mi_at tb pc = some .frem) (hne : vf_n32 (FP.frem x y)) (kk : mi_W P X k d mc ms (pc + 1) lv (.float (FP.frem x y) :: st) h Q) : mi_W P X k d mc ms pc lv (.float y :: .float x :: st) h Q := by
  intro p l e R s m args below meth c H locs cells slots Z D dA b0 xa ls F hS hmc hms hR hl hZ
  exact lv_frem F.1 F.2.1 (ht pc _ (mi_at_mem hi)) hne (kk p l e R s m args below meth c H locs cells slots Z D dA b0 xa ls F hS hmc hms hR hl hZ)
theorem mi_f2d (ht : mi_tb (P.2.2.2.1 k).2.1 tb) {x : UInt32} (hi : mi_at tb pc = some .f2d) (hne : vf_n64 (FP.f2d x)) (kk : mi_W P X k d mc ms (pc + 1) lv (.double (FP.f2d x) :: st) h Q) : mi_W P X k d mc ms pc lv (.float x :: st) h Q := by
  intro p l e R s m args below meth c H locs cells slots Z D dA b0 xa ls F hS hmc hms hR hl hZ
  exact lv_f2d F.1 F.2.1 (ht pc _ (mi_at_mem hi)) hne (kk p l e R s m args below meth c H locs cells slots Z D dA b0 xa ls F hS hmc hms hR hl hZ)
theorem mi_rf (ad : Nat → Nat) (r : Option Nat) : va_rf (r.map ad) = mi_V ad (va_rf r) := by cases r <;> rfl
theorem mi_iald (ht : mi_tb (P.2.2.2.1 k).2.1 tb) {a t n : Nat} {f : Nat → Int32} {i : Int32} (hi : mi_at tb pc = some .iaload) (htt : P.2.2.2.2.1[t]? = some .int) (hE : P.2.2.2.2.2.1 ≤ a) (ha : a < h.1) (hc : h.2 a = .inl (t, n, .inl f)) (hin : vp_in i n) (kk : mi_W P X k d mc ms (pc + 1) lv (.int (f i.toNatClampNeg) :: st) h Q) : mi_W P X k d mc ms pc lv (.int i :: .ref a :: st) h Q := by
  intro p l e R s m args below meth c H locs cells slots Z D dA b0 xa ls F hS hmc hms hR hl hZ
  have he := mi_w_at (dA := dA) (E := P.2.2.2.2.2.1) (b0 := b0) (xa := xa) (h := h) hE ha
  rw [hc] at he
  exact va_iald F.1 F.2.1 F.2.2.2.2.2.2.2.2.2.2.2.1 hR.2.2 _ t he (mi_tys_at htt) hin (ht pc _ (mi_at_mem hi)) (kk p l e R s m args below meth c H locs cells slots Z D dA b0 xa ls F hS hmc hms hR hl hZ)
set_option maxHeartbeats 4000000 in
theorem mi_iast (ht : mi_tb (P.2.2.2.1 k).2.1 tb) {a t n : Nat} {f : Nat → Int32} {i : Int32} {x : Int32} (hi : mi_at tb pc = some .iastore) (htt : P.2.2.2.2.1[t]? = some .int) (hE : P.2.2.2.2.2.1 ≤ a) (ha : a < h.1) (hc : h.2 a = .inl (t, n, .inl f)) (hin : vp_in i n) (kk : mi_W P X k d mc ms (pc + 1) lv st (h.1, va_up h.2 a (.inl (t, n, .inl (va_up f i.toNatClampNeg x)))) Q) : mi_W P X k d mc ms pc lv (.int x :: .int i :: .ref a :: st) h Q := by
  intro p l e R s m args below meth c H locs cells slots Z D dA b0 xa ls F hS hmc hms hR hl hZ
  have he := mi_w_at (dA := dA) (E := P.2.2.2.2.2.1) (b0 := b0) (xa := xa) (h := h) hE ha
  rw [hc] at he
  refine W.iast F.1 F.2.1 (hR.2.2 _ _ he) ((F.2.2.2.2.2.2.2.2.2.2.2.1.2 t _ (mi_tys_at htt)).1 n (fun j => .int (f j))) (fun q => by cases q) (by show ¬ (i < 0 ∨ (arrV _ _ _).slots.size ≤ _); rw [arrV_size]; exact hin) rfl rfl (ht pc _ (mi_at_mem hi)) fun H1 e1 z oq => ?_
  refine kk p l e R s m args below meth c H1 _ cells slots Z D dA b0 xa ls F (hS.put z oq (mi_ad_in hE)) hmc hms (hR.put hE ha _ ?_ z oq) hl hZ
  show H1[_]? = some (vp_cell (dA t) (n, _))
  rw [e1]
  show some ((arrV (dA t) n (fun j => .int (f j))).setSlot _ _) = some (arrV (dA t) n (fun j => .int (va_up f i.toNatClampNeg x j)))
  rw [arrV_store]
  congr 2
  funext q
  by_cases hq : q = i.toNatClampNeg
  · subst hq
    simp [updV, va_up]
  · simp [updV, va_up, hq]
theorem mi_lald (ht : mi_tb (P.2.2.2.1 k).2.1 tb) {a t n : Nat} {f : Nat → Int64} {i : Int32} (hi : mi_at tb pc = some .laload) (htt : P.2.2.2.2.1[t]? = some .long) (hE : P.2.2.2.2.2.1 ≤ a) (ha : a < h.1) (hc : h.2 a = .inl (t, n, .inr (.inl f))) (hin : vp_in i n) (kk : mi_W P X k d mc ms (pc + 1) lv (.long (f i.toNatClampNeg) :: st) h Q) : mi_W P X k d mc ms pc lv (.int i :: .ref a :: st) h Q := by
  intro p l e R s m args below meth c H locs cells slots Z D dA b0 xa ls F hS hmc hms hR hl hZ
  have he := mi_w_at (dA := dA) (E := P.2.2.2.2.2.1) (b0 := b0) (xa := xa) (h := h) hE ha
  rw [hc] at he
  exact va_lald F.1 F.2.1 F.2.2.2.2.2.2.2.2.2.2.2.1 hR.2.2 _ t he (mi_tys_at htt) hin (ht pc _ (mi_at_mem hi)) (kk p l e R s m args below meth c H locs cells slots Z D dA b0 xa ls F hS hmc hms hR hl hZ)
set_option maxHeartbeats 4000000 in
theorem mi_last (ht : mi_tb (P.2.2.2.1 k).2.1 tb) {a t n : Nat} {f : Nat → Int64} {i : Int32} {x : Int64} (hi : mi_at tb pc = some .lastore) (htt : P.2.2.2.2.1[t]? = some .long) (hE : P.2.2.2.2.2.1 ≤ a) (ha : a < h.1) (hc : h.2 a = .inl (t, n, .inr (.inl f))) (hin : vp_in i n) (kk : mi_W P X k d mc ms (pc + 1) lv st (h.1, va_up h.2 a (.inl (t, n, .inr (.inl (va_up f i.toNatClampNeg x))))) Q) : mi_W P X k d mc ms pc lv (.long x :: .int i :: .ref a :: st) h Q := by
  intro p l e R s m args below meth c H locs cells slots Z D dA b0 xa ls F hS hmc hms hR hl hZ
  have he := mi_w_at (dA := dA) (E := P.2.2.2.2.2.1) (b0 := b0) (xa := xa) (h := h) hE ha
  rw [hc] at he
  refine W.last F.1 F.2.1 (hR.2.2 _ _ he) ((F.2.2.2.2.2.2.2.2.2.2.2.1.2 t _ (mi_tys_at htt)).1 n (fun j => .long (f j))) (fun q => by cases q) (by show ¬ (i < 0 ∨ (arrV _ _ _).slots.size ≤ _); rw [arrV_size]; exact hin) rfl rfl (ht pc _ (mi_at_mem hi)) fun H1 e1 z oq => ?_
  refine kk p l e R s m args below meth c H1 _ cells slots Z D dA b0 xa ls F (hS.put z oq (mi_ad_in hE)) hmc hms (hR.put hE ha _ ?_ z oq) hl hZ
  show H1[_]? = some (vp_cell (dA t) (n, _))
  rw [e1]
  show some ((arrV (dA t) n (fun j => .long (f j))).setSlot _ _) = some (arrV (dA t) n (fun j => .long (va_up f i.toNatClampNeg x j)))
  rw [arrV_store]
  congr 2
  funext q
  by_cases hq : q = i.toNatClampNeg
  · subst hq
    simp [updV, va_up]
  · simp [updV, va_up, hq]
theorem mi_dald (ht : mi_tb (P.2.2.2.1 k).2.1 tb) {a t n : Nat} {f : Nat → UInt64} {i : Int32} (hi : mi_at tb pc = some .daload) (htt : P.2.2.2.2.1[t]? = some .double) (hE : P.2.2.2.2.2.1 ≤ a) (ha : a < h.1) (hc : h.2 a = .inl (t, n, .inr (.inr (.inr (.inl f))))) (hin : vp_in i n) (kk : mi_W P X k d mc ms (pc + 1) lv (.double (f i.toNatClampNeg) :: st) h Q) : mi_W P X k d mc ms pc lv (.int i :: .ref a :: st) h Q := by
  intro p l e R s m args below meth c H locs cells slots Z D dA b0 xa ls F hS hmc hms hR hl hZ
  have he := mi_w_at (dA := dA) (E := P.2.2.2.2.2.1) (b0 := b0) (xa := xa) (h := h) hE ha
  rw [hc] at he
  exact va_dald F.1 F.2.1 F.2.2.2.2.2.2.2.2.2.2.2.1 hR.2.2 _ t he (mi_tys_at htt) hin (ht pc _ (mi_at_mem hi)) (kk p l e R s m args below meth c H locs cells slots Z D dA b0 xa ls F hS hmc hms hR hl hZ)
set_option maxHeartbeats 4000000 in
theorem mi_dast (ht : mi_tb (P.2.2.2.1 k).2.1 tb) {a t n : Nat} {f : Nat → UInt64} {i : Int32} {x : UInt64} (hi : mi_at tb pc = some .dastore) (htt : P.2.2.2.2.1[t]? = some .double) (hE : P.2.2.2.2.2.1 ≤ a) (ha : a < h.1) (hc : h.2 a = .inl (t, n, .inr (.inr (.inr (.inl f))))) (hin : vp_in i n) (kk : mi_W P X k d mc ms (pc + 1) lv st (h.1, va_up h.2 a (.inl (t, n, .inr (.inr (.inr (.inl (va_up f i.toNatClampNeg x))))))) Q) : mi_W P X k d mc ms pc lv (.double x :: .int i :: .ref a :: st) h Q := by
  intro p l e R s m args below meth c H locs cells slots Z D dA b0 xa ls F hS hmc hms hR hl hZ
  have he := mi_w_at (dA := dA) (E := P.2.2.2.2.2.1) (b0 := b0) (xa := xa) (h := h) hE ha
  rw [hc] at he
  refine W.dast F.1 F.2.1 (hR.2.2 _ _ he) ((F.2.2.2.2.2.2.2.2.2.2.2.1.2 t _ (mi_tys_at htt)).1 n (fun j => .double (f j))) (fun q => by cases q) (by show ¬ (i < 0 ∨ (arrV _ _ _).slots.size ≤ _); rw [arrV_size]; exact hin) rfl rfl (ht pc _ (mi_at_mem hi)) fun H1 e1 z oq => ?_
  refine kk p l e R s m args below meth c H1 _ cells slots Z D dA b0 xa ls F (hS.put z oq (mi_ad_in hE)) hmc hms (hR.put hE ha _ ?_ z oq) hl hZ
  show H1[_]? = some (vp_cell (dA t) (n, _))
  rw [e1]
  show some ((arrV (dA t) n (fun j => .double (f j))).setSlot _ _) = some (arrV (dA t) n (fun j => .double (va_up f i.toNatClampNeg x j)))
  rw [arrV_store]
  congr 2
  funext q
  by_cases hq : q = i.toNatClampNeg
  · subst hq
    simp [updV, va_up]
  · simp [updV, va_up, hq]
theorem mi_aald (ht : mi_tb (P.2.2.2.1 k).2.1 tb) {a t n : Nat} {C : String} {f : Nat → Option Nat} {i : Int32} (hi : mi_at tb pc = some .aaload) (htt : P.2.2.2.2.1[t]? = some (.object C)) (hE : P.2.2.2.2.2.1 ≤ a) (ha : a < h.1) (hc : h.2 a = .inl (t, n, .inr (.inr (.inr (.inr f))))) (hin : vp_in i n) (kk : mi_W P X k d mc ms (pc + 1) lv (va_rf (f i.toNatClampNeg) :: st) h Q) : mi_W P X k d mc ms pc lv (.int i :: .ref a :: st) h Q := by
  intro p l e R s m args below meth c H locs cells slots Z D dA b0 xa ls F hS hmc hms hR hl hZ
  have he := mi_w_at (dA := dA) (E := P.2.2.2.2.2.1) (b0 := b0) (xa := xa) (h := h) hE ha
  rw [hc] at he
  refine va_aldq F.1 F.2.1 F.2.2.2.2.2.2.2.2.2.2.2.1 hR.2.2 _ t he (mi_tys_at htt) hin (ht pc _ (mi_at_mem hi)) ?_
  rw [mi_rf]
  exact kk p l e R s m args below meth c H locs cells slots Z D dA b0 xa ls F hS hmc hms hR hl hZ
set_option maxHeartbeats 4000000 in
theorem mi_aast (ht : mi_tb (P.2.2.2.1 k).2.1 tb) {a t n ci v : Nat} {r : vw_C} {vs : List Value} {f : Nat → Option Nat} {i : Int32} (hi : mi_at tb pc = some .aastore) (htt : P.2.2.2.2.1[t]? = some (.object r.1)) (hE : P.2.2.2.2.2.1 ≤ a) (ha : a < h.1) (hc : h.2 a = .inl (t, n, .inr (.inr (.inr (.inr f))))) (hvE : P.2.2.2.2.2.1 ≤ v) (hva : v < h.1) (hv : h.2 v = .inr (ci, vs)) (hr : P.1[ci]? = some r) (hin : vp_in i n) (kk : mi_W P X k d mc ms (pc + 1) lv st (h.1, va_up h.2 a (.inl (t, n, .inr (.inr (.inr (.inr (va_up f i.toNatClampNeg (some v)))))))) Q) : mi_W P X k d mc ms pc lv (.ref v :: .int i :: .ref a :: st) h Q := by
  intro p l e R s m args below meth c H locs cells slots Z D dA b0 xa ls F hS hmc hms hR hl hZ
  have he := mi_w_at (dA := dA) (E := P.2.2.2.2.2.1) (b0 := b0) (xa := xa) (h := h) hE ha
  rw [hc] at he
  have hev := mi_w_at (dA := dA) (E := P.2.2.2.2.2.1) (b0 := b0) (xa := xa) (h := h) hvE hva
  rw [hv] at hev
  have hlt : i.toNatClampNeg < n := Nat.not_le.mp fun q => hin (Or.inr q)
  have h0 : ¬ i < 0 := fun q => hin (Or.inl q)
  have hK := F.2.2.2.2.2.2.2.2.2.2.2.1
  obtain ⟨r', hr', cellV, g1, g2, g3, -⟩ := hR.2.2 _ _ hev
  have hcls := (hK.1 ci r hr).2
  obtain ⟨kA, comp, k1, k2, k3, -⟩ := (hK.2 t _ (mi_tys_at htt)).2
  have hcomp : comp = D.1 ci := Option.some.inj (k3.symm.trans hcls.1)
  subst hcomp
  obtain ⟨kC, hkC, -⟩ := hcls.2
  refine W.aast F.1 F.2.1 (hR.2.2 _ _ he) (fun q h => by cases h) (fun h => by cases h) k1 k2 rfl hkC ⟨h0, by show _ < (arrV _ _ _).slots.size; rw [arrV_size]; exact hlt⟩ g1 (fun q h => by rw [g3] at h; cases h) (by rw [g2]; exact hkC) (by rw [g2]; exact va_assign hcls) rfl rfl (ht pc _ (mi_at_mem hi)) fun H1 e1 z oq => ?_
  refine kk p l e R s m args below meth c H1 _ cells slots Z D dA b0 xa ls F (hS.put z oq (mi_ad_in hE)) hmc hms (hR.put hE ha _ ?_ z oq) hl hZ
  show H1[_]? = some (vp_cell (dA t) (n, _))
  rw [e1]
  show some ((arrV (dA t) n (fun j => va_rf ((f j).map (mi_ad P.2.2.2.2.2.1 b0 xa)))).setSlot _ _) = some (arrV (dA t) n (fun j => va_rf ((va_up f i.toNatClampNeg (some v) j).map (mi_ad P.2.2.2.2.2.1 b0 xa))))
  rw [arrV_store]
  congr 2
  funext q
  by_cases hq : q = i.toNatClampNeg
  · subst hq
    simp [updV, va_up, va_rf]
  · simp [updV, va_up, hq]
theorem mi_alen (ht : mi_tb (P.2.2.2.1 k).2.1 tb) {a t : Nat} {x : vp_A} {ty : FieldType} (hi : mi_at tb pc = some .arraylength) (htt : P.2.2.2.2.1[t]? = some ty) (hE : P.2.2.2.2.2.1 ≤ a) (ha : a < h.1) (hc : h.2 a = .inl (t, x)) (kk : mi_W P X k d mc ms (pc + 1) lv (.int (Int32.ofNat x.1) :: st) h Q) : mi_W P X k d mc ms pc lv (.ref a :: st) h Q := by
  intro p l e R s m args below meth c H locs cells slots Z D dA b0 xa ls F hS hmc hms hR hl hZ
  have he := mi_w_at (dA := dA) (E := P.2.2.2.2.2.1) (b0 := b0) (xa := xa) (h := h) hE ha
  rw [hc] at he
  exact va_alen F.1 F.2.1 F.2.2.2.2.2.2.2.2.2.2.2.1 hR.2.2 _ t he (mi_tys_at htt) rfl (ht pc _ (mi_at_mem hi)) (kk p l e R s m args below meth c H locs cells slots Z D dA b0 xa ls F hS hmc hms hR hl hZ)
theorem mi_xld (ht : mi_tb (P.2.2.2.1 k).2.1 tb) {a : Nat} {i : Int32} (hi : mi_at tb pc = some .iaload) (hE : a < P.2.2.2.2.2.1) (hin : vp_in i (X a).1) (kk : mi_W P X k d mc ms (pc + 1) lv (.int ((X a).2 i.toNatClampNeg) :: st) h Q) : mi_W P X k d mc ms pc lv (.int i :: .ref a :: st) h Q := by
  intro p l e R s m args below meth c H locs cells slots Z D dA b0 xa ls F hS hmc hms hR hl hZ
  have hx := F.2.2.2.2.2.2.2.2.2.2.2.2.1 a hE
  rw [show xa a = (mi_ad P.2.2.2.2.2.1 b0 xa) a from (if_pos hE).symm] at hx
  exact va_ti F.1 F.2.1 hx hS hin rfl (ht pc _ (mi_at_mem hi)) (kk p l e R s m args below meth c H locs cells slots Z D dA b0 xa ls F hS hmc hms hR hl hZ)
theorem mi_xlen (ht : mi_tb (P.2.2.2.1 k).2.1 tb) {a : Nat} (hi : mi_at tb pc = some .arraylength) (hE : a < P.2.2.2.2.2.1) (kk : mi_W P X k d mc ms (pc + 1) lv (.int (Int32.ofNat (X a).1) :: st) h Q) : mi_W P X k d mc ms pc lv (.ref a :: st) h Q := by
  intro p l e R s m args below meth c H locs cells slots Z D dA b0 xa ls F hS hmc hms hR hl hZ
  have hx := F.2.2.2.2.2.2.2.2.2.2.2.2.1 a hE
  rw [show xa a = (mi_ad P.2.2.2.2.2.1 b0 xa) a from (if_pos hE).symm] at hx
  exact va_tlen F.1 F.2.1 hx hS rfl (ht pc _ (mi_at_mem hi)) (kk p l e R s m args below meth c H locs cells slots Z D dA b0 xa ls F hS hmc hms hR hl hZ)
theorem mi_gets (ht : mi_tb (P.2.2.2.1 k).2.1 tb) {index a : Nat} {C n ds : String} (hi : mi_at tb pc = some (.getstatic index)) (hs : (C, n, ds, a) ∈ P.2.2.2.2.2.2) (hl' : Cond.fieldLink (P.2.2.2.1 k).1.cls index C n ds ∈ P.2.1) (kk : mi_W P X k d mc ms (pc + 3) lv (.ref a :: st) h Q) : mi_W P X k d mc ms pc lv st h Q := by
  intro p l e R s m args below meth c H locs cells slots Z D dA b0 xa ls F hS hmc hms hR hl hZ
  obtain ⟨hE, hz⟩ := F.2.2.2.2.2.2.2.2.2.2.2.2.2.1 _ hs
  have hk := kk p l e R s m args below meth c H locs cells slots Z D dA b0 xa ls F hS hmc hms hR hl hZ
  have e1 : mi_V (mi_ad P.2.2.2.2.2.1 b0 xa) (.ref a) = .ref (xa a) := congrArg Value.ref (if_pos hE)
  rw [List.map_cons, e1] at hk
  exact va_gets F.1 F.2.1 hz hS F.2.2.2.1 (F.2.2.2.2.1 _ hl') (fun _ q => q) (ht pc _ (mi_at_mem hi)) hk
end MIR
end
section
-- new things, and calls
theorem mi_R.push {P : mi_P} {D : va_G} {dA : Nat → ClassId} {b0 : Nat} {xa : Nat → Nat} {H H1 : Heap} {h : mi_H} (hR : mi_R P D dA b0 xa H h) (c : mi_C) (e : va_at D P.1 (H.size, mi_e dA (mi_ad P.2.2.2.2.2.1 b0 xa) c) H1) (z : H1.size = H.size + 1) (o : ∀ q : Nat, q < H.size → H1[q]? = H[q]?) : mi_R P D dA b0 xa H1 (h.1 + 1, va_up h.2 h.1 c) := by
  obtain ⟨h1, h2, h3⟩ := hR
  refine ⟨by show _ ≤ h.1 + 1; omega, by rw [z, h2]; show _ = b0 + (h.1 + 1 - _); omega, ?_⟩
  rw [← mi_w_push h1 c, ← h2]
  refine (h3.kept (fun k x hx => o x.1 ((h3 k x hx).lt))).app (fun k x hx => ?_)
  have hz : k < 1 := (List.getElem?_eq_some_iff.mp hx).1
  rw [show k = 0 by omega] at hx
  cases hx
  exact e
theorem mi_S_push {b0 : Nat} {s : State} {H H1 : Heap} {locs : List Loc} (hS : va_S (fun q => b0 ≤ q) s.heap H locs) (z : H1.size = H.size + 1) (o : ∀ q : Nat, q < H.size → H1[q]? = H[q]?) : va_S (fun q => b0 ≤ q) s.heap H1 locs :=
  ⟨Nat.le_trans hS.1 (by omega), fun x h1 h2 => (o x (Nat.lt_of_lt_of_le h1 hS.1)).trans (hS.2.1 x h1 h2), hS.2.2⟩
section MIN
variable {P : mi_P} {X : mi_X} {k d mc ms pc : Nat} {lv : mi_L} {st : List Value} {h : mi_H} {Q : Option Value → mi_H → Prop} {tb : List (Nat × Instr)}
set_option maxHeartbeats 4000000 in
theorem mi_new (ht : mi_tb (P.2.2.2.1 k).2.1 tb) {index ci N : Nat} {C : String} {T : u_T} {ty0 : Nat → FieldType} {fs : List Value} (hi : mi_at tb pc = some (.new index)) (hcf : mi_cf P ci C T N ty0) (h1 : Cond.classLink (P.2.2.2.1 k).1.cls index C ∈ P.2.1) (h2 : Cond.instantiable C N ∈ P.2.1) (h3 : Cond.initialized C ∈ P.2.1) (hfs : ∀ j, j < N → defaultValue (ty0 j) = vp_V fs j) (hrf : ∀ ad, fs.map (mi_V ad) = fs)
    (w : mi_W P X k d mc ms (pc + 3) lv (.ref h.1 :: st) (h.1 + 1, va_up h.2 h.1 (.inr (ci, fs))) Q) : mi_W P X k d (mc + 1) (ms + N) pc lv st h Q := by
  intro p l e R s m args below meth c H locs cells slots Z D dA b0 xa ls F hS hmc hms hR hl hZ
  have F0' := F
  obtain ⟨hx, hb, hml, hown, hts, hnm, -, -, -, -, hz0, hK, -, -, hN⟩ := F
  obtain ⟨c1, c2, c3, c4⟩ := hcf
  have hKn := hK.1 ci _ c1
  have ea : mi_ad P.2.2.2.2.2.1 b0 xa h.1 = H.size := by
    unfold mi_ad
    rw [if_neg (by have := hR.1; omega), hR.2.1]
  refine W.newcK hx hb hown (hts _ h1) (hts _ h2) (hts _ h3) rfl (ht pc _ (mi_at_mem hi)) (by omega) (by omega) hKn.2.1 rfl fun H1 kC hkC e1 z1 o1 => ?_
  have hw := w p l e R s m args below meth c H1 locs (cells + 1) (slots + N) Z D dA b0 xa ls F0' (mi_S_push hS z1 o1) (by omega) (by omega) (hR.push (.inr (ci, fs)) (by
    show va_at D P.1 (H.size, .inr (ci, fs.map (mi_V (mi_ad P.2.2.2.2.2.1 b0 xa)))) H1
    rw [hrf]
    exact ⟨_, c1, (u_born ty0 hts c2 hKn hkC e1 c3).to hfs⟩) z1 o1) hl hZ
  rw [List.map_cons, show mi_V (mi_ad P.2.2.2.2.2.1 b0 xa) (.ref h.1) = .ref H.size from congrArg Value.ref ea] at hw
  exact hw
set_option maxHeartbeats 4000000 in
theorem mi_newa (ht : mi_tb (P.2.2.2.1 k).2.1 tb) {atype : ArrayType} {t N : Nat} {n : Int32} {z : (Nat → Int32) ⊕ (Nat → Int64) ⊕ (Nat → UInt32) ⊕ (Nat → UInt64) ⊕ (Nat → Option Nat)} (hi : mi_at tb pc = some (.newarray atype)) (htt : P.2.2.2.2.1[t]? = some (newarray.typeOf atype)) (harr : Cond.arrayClass (newarray.typeOf atype) ∈ P.2.1) (hn : ¬ n < 0) (hN : n.toNatClampNeg = N) (hby : N * componentBytes (newarray.typeOf atype) ≤ 536870912)
    (hz : ∀ cA, vp_cell cA (N, z) = arrV cA N (fun _ => defaultValue (newarray.typeOf atype))) (hzz : ∀ ad, mi_z ad z = z) (w : mi_W P X k d mc ms (pc + 2) lv (.ref h.1 :: st) (h.1 + 1, va_up h.2 h.1 (.inl (t, N, z))) Q) : mi_W P X k d (mc + 1) (ms + N) pc lv (.int n :: st) h Q := by
  intro p l e R s m args below meth c H locs cells slots Z D dA b0 xa ls F hS hmc hms hR hl hZ
  have F0' := F
  obtain ⟨hx, hb, hml, hown, hts, hnm, -, -, -, -, hz0, hK, -, -, hNw⟩ := F
  have ea : mi_ad P.2.2.2.2.2.1 b0 xa h.1 = H.size := by
    unfold mi_ad
    rw [if_neg (by have := hR.1; omega), hR.2.1]
  refine va_newaK hx hb (hts _ harr) rfl (ht pc _ (mi_at_mem hi)) rfl hn hN hby (by omega) (by omega) rfl fun H1 cA e1 z1 o1 hAr hNm => ?_
  have hcA : cA = dA t := by
    have h2 := (hK.2 t _ (mi_tys_at htt)).2
    have h3 : s.vm.findClass ("[" ++ (newarray.typeOf atype).toString) = some (dA t) := by cases atype <;> exact h2
    exact Option.some.inj (hNm.symm.trans h3)
  subst hcA
  have hw := w p l e R s m args below meth c H1 locs (cells + 1) (slots + N) Z D dA b0 xa ls F0' (mi_S_push hS z1 o1) (by omega) (by omega) (hR.push (.inl (t, N, z)) (by
    show H1[H.size]? = some (vp_cell (dA t) (N, mi_z (mi_ad P.2.2.2.2.2.1 b0 xa) z))
    rw [hzz, hz]
    exact e1) z1 o1) hl hZ
  rw [List.map_cons, show mi_V (mi_ad P.2.2.2.2.2.1 b0 xa) (.ref h.1) = .ref H.size from congrArg Value.ref ea] at hw
  exact hw
set_option maxHeartbeats 4000000 in
theorem mi_newq (ht : mi_tb (P.2.2.2.1 k).2.1 tb) {index t N : Nat} {n : Int32} {C : String} (hi : mi_at tb pc = some (.anewarray index)) (htt : P.2.2.2.2.1[t]? = some (.object C)) (hcl : Cond.classLink (P.2.2.2.1 k).1.cls index C ∈ P.2.1) (hov : Cond.arrayOver (.object C) ∈ P.2.2.1) (hn : ¬ n < 0) (hN : n.toNatClampNeg = N) (hby : N * 4 ≤ 536870912)
    (w : mi_W P X k d mc ms (pc + 3) lv (.ref h.1 :: st) (h.1 + 1, va_up h.2 h.1 (.inl (t, N, .inr (.inr (.inr (.inr (fun _ => none))))))) Q) : mi_W P X k d (mc + 1) (ms + N) pc lv (.int n :: st) h Q := by
  intro p l e R s m args below meth c H locs cells slots Z D dA b0 xa ls F hS hmc hms hR hl hZ
  have F0' := F
  obtain ⟨hx, hb, hml, hown, hts, hnm, -, -, -, -, hz0, hK, -, -, hNw⟩ := F
  have ea : mi_ad P.2.2.2.2.2.1 b0 xa h.1 = H.size := by
    unfold mi_ad
    rw [if_neg (by have := hR.1; omega), hR.2.1]
  subst hN
  refine W.anew hx hb hown (hts _ hcl) (va_AO.use (hNw _ hov)) rfl (ht pc _ (mi_at_mem hi)) rfl hn hby (by omega) (by omega) fun cA kA comp f1 f2 f3 f4 => ?_
  have hcA : cA = dA t := by
    obtain ⟨_, _, -, -, -, h4⟩ := (hK.2 t _ (mi_tys_at htt)).2
    exact Option.some.inj (f1.symm.trans h4)
  subst hcA
  generalize hH1 : H.push ({ cls := dA t, slots := Array.replicate n.toNatClampNeg .null, vm := .none } : Cell) = H1
  have z1 : H1.size = H.size + 1 := by rw [← hH1, Array.size_push]
  have e1 : H1[H.size]? = some (arrV (dA t) n.toNatClampNeg (fun _ => .null)) := by rw [← hH1, Array.getElem?_push_size, ← arrV_new]
  have o1 : ∀ q : Nat, q < H.size → H1[q]? = H[q]? := fun q hq => by rw [← hH1, Array.getElem?_push, if_neg (Nat.ne_of_lt hq)]
  have hw := w p l e R s m args below meth c H1 locs (cells + 1) (slots + n.toNatClampNeg) Z D dA b0 xa ls F0' (mi_S_push hS z1 o1) (by omega) (by omega) (hR.push (.inl (t, n.toNatClampNeg, .inr (.inr (.inr (.inr (fun _ => none)))))) e1 z1 o1) hl hZ
  rw [List.map_cons, show mi_V (mi_ad P.2.2.2.2.2.1 b0 xa) (.ref h.1) = .ref H.size from congrArg Value.ref ea] at hw
  exact hw
theorem mi_objInit (ht : mi_tb (P.2.2.2.1 k).2.1 tb) {index a : Nat} (hi : mi_at tb pc = some (.invokespecial index)) (h1 : Cond.methodLink (P.2.2.2.1 k).1.cls index objectInit ∈ P.2.1) (h2 : Cond.instanceMethod objectInit ∈ P.2.1) (h3 : Cond.code objectInit ⟨#[0xb1]⟩ 1 none ∈ P.2.1) (hd : 1 ≤ d) (hst : (st.map fun v => v.category).sum ≤ 8)
    (w : mi_W P X k d mc ms (pc + 3) lv st h Q) : mi_W P X k d mc ms pc lv (.ref a :: st) h Q := by
  intro p l e R s m args below meth c H locs cells slots Z D dA b0 xa ls F hS hmc hms hR hl hZ
  have hw := w p l e R s m args below meth c H locs cells slots Z D dA b0 xa ls F hS hmc hms hR hl hZ
  obtain ⟨hx, hb, hml, hown, hts, hnm, -, -, hf1, hf2, hz0, hK, -, -, hNw⟩ := F
  refine W.objInit hx hb hown (hts _ h1) (hts _ h2) (hts _ h3) (g := F0 m pc ls (.ref (mi_ad P.2.2.2.2.2.1 b0 xa a) :: st.map (mi_V (mi_ad P.2.2.2.2.2.1 b0 xa)))) rfl (hl.1.trans hml.symm) rfl (ht pc _ (mi_at_mem hi)) (by omega) ?_ hw
  have := lv_room (m := m) (pc := pc) (ls := ls) (rest := .ref (mi_ad P.2.2.2.2.2.1 b0 xa a) :: st.map (mi_V (mi_ad P.2.2.2.2.2.1 b0 xa))) (st := st.map (mi_V (mi_ad P.2.2.2.2.2.1 b0 xa))) (by rw [List.map_map]; rw [show ((fun v : Value => v.category) ∘ mi_V (mi_ad P.2.2.2.2.2.1 b0 xa)) = fun v => v.category from funext fun v => mi_V_cat _ v]; exact hst)
  omega
end MIN
-- a call, whatever it answers
theorem mi_U.go {P : mi_P} {X : mi_X} {D : va_G} {dA : Nat → ClassId} {b0 : Nat} {xa : Nat → Nat} {s U : State} {H : Heap} {locs : List Loc} (h : mi_U P X D dA b0 xa s) (hS : va_S (fun q => b0 ≤ q) s.heap H locs) (hw : ∀ w ∈ P.2.2.1, (∃ a i b n d h, w = .fieldLinkNest a i b n d h) ∨ (∃ a i x h, w = .methodLinkNest a i x h) ∨ ∃ C, w = .arrayOver (.object C)) (hU : U.heap = H) (hW : s.WarmedH U.vm) : mi_U P X D dA b0 xa U := by
  obtain ⟨h1, h2, h3, h4, h5⟩ := h
  have ho : ∀ a : Nat, a < s.heap.size → ¬ b0 ≤ a → U.heap[a]? = s.heap[a]? := fun a h1 h2 => by rw [hU]; exact hS.2.1 a h1 h2
  refine ⟨by rw [hU]; exact Nat.le_trans h1 hS.1, va_K.moved hW.alike h2, fun a ha => ((h3 a ha).kept ho).moved hW.alike, fun q hq => ⟨(h4 q hq).1, ((h4 q hq).2.kept ho).moved hW.alike⟩, fun w hw' => ?_⟩
  rcases hw w hw' with ⟨a, i, b, n, d, h, rfl⟩ | ⟨a, i, x, h, rfl⟩ | ⟨C, rfl⟩
  · exact va_Nw.warmF hW (h5 _ hw')
  · exact va_Nw.warmM hW (h5 _ hw')
  · exact va_AO.moved hW.alike (h5 _ hw')
theorem mi_U.calling {P : mi_P} {X : mi_X} {D : va_G} {dA : Nat → ClassId} {b0 : Nat} {xa : Nat → Nat} {U : State} (h : mi_U P X D dA b0 xa U) (hw : ∀ w ∈ P.2.2.1, (∃ a i b n d h, w = .fieldLinkNest a i b n d h) ∨ (∃ a i x h, w = .methodLinkNest a i x h) ∨ ∃ C, w = .arrayOver (.object C)) (g : JFrame) (mk : MethodId) (a : Array Value) : mi_U P X D dA b0 xa (U.calling g mk a) := by
  obtain ⟨h1, h2, h3, h4, h5⟩ := h
  refine ⟨h1, va_K.moved (u := U) (U := U.calling g mk a) (Vm.Alike.refl U.vm) h2, fun x hx => (h3 x hx).moved (u := U) (U := U.calling g mk a) (Vm.Alike.refl U.vm), fun q hq => ⟨(h4 q hq).1, (h4 q hq).2.moved (u := U) (U := U.calling g mk a) (Vm.Alike.refl U.vm)⟩, fun w hw' => ?_⟩
  rcases hw w hw' with ⟨a, i, b, n, d, h, rfl⟩ | ⟨a, i, x, h, rfl⟩ | ⟨C, rfl⟩
  · exact va_Nw.same rfl rfl (h5 _ hw')
  · exact va_Nw.same rfl rfl (h5 _ hw')
  · exact va_AO.moved (u := U) (Vm.Alike.refl U.vm) (h5 _ hw')
theorem mi_blind {P : mi_P} {X : mi_X} {D : va_G} {dA : Nat → ClassId} {b0 : Nat} {xa : Nat → Nat} {av : List Value} {h : mi_H} (hw : ∀ w ∈ P.2.2.1, (∃ a i b n d h, w = .fieldLinkNest a i b n d h) ∨ (∃ a i x h, w = .methodLinkNest a i x h) ∨ ∃ C, w = .arrayOver (.object C)) : FrameBlind (va_Pc av (fun U => mi_U P X D dA b0 xa U ∧ mi_R P D dA b0 xa U.heap h)) :=
  fun a U g mk q => ⟨q.1, q.2.1.calling hw g mk a, q.2.2⟩
theorem mi_back {P : mi_P} {D : va_G} {dA : Nat → ClassId} {b0 : Nat} {xa : Nat → Nat} {p : Program} {l : Launch} {e : Env} {R : Room} {s : State} {m : MethodId} {args : Array Value} {below : List Frame} {meth : Method} {c : Code} {H : Heap} {locs : List Loc} {cells slots mc ms pc : Nat} {Z : State → Prop} {ls : Array Slot} {st0 rest : List Value} {Q : Option Value → mi_H → Prop} (hb0 : b0 ≤ s.heap.size)
    (hr : va_Run p l e R s m args below meth c H locs cells slots mc ms (F0 m pc ls st0) rest (fun st o t => (∃ (r : Option Value) (h1 : mi_H), o = .returned (r.map (mi_V (mi_ad P.2.2.2.2.2.1 b0 xa))) ∧ Q r h1 ∧ mi_R P D dA b0 xa t.heap h1) ∧ va_F (fun q => b0 ≤ q) st t) (fun q => b0 ≤ q)) (hS : va_S (fun q => b0 ≤ q) s.heap H locs)
    (kk : ∀ (r : Option Value) (h1 : mi_H) (H1 : Heap) (locs1 : List Loc), Q r h1 → mi_R P D dA b0 xa H1 h1 → va_S (fun q => b0 ≤ q) s.heap H1 locs1 → W p l e R s m args below meth c H1 locs1 (cells + mc) (slots + ms) Z (F0 m (pc + 3) ls ((r.map (mi_V (mi_ad P.2.2.2.2.2.1 b0 xa))).toList ++ rest))) : W p l e R s m args below meth c H locs cells slots Z (F0 m pc ls st0) := by
  intro T hT Xs
  obtain ⟨v, st₀, t, T', L, h0, X', hL, e1, e2, ⟨⟨r, h1, hv, hq, hR1⟩, hz, hk⟩, st⟩ := hr T hT Xs
  cases hv
  rw [h0] at hz hk
  obtain ⟨t2, a1, b1⟩ := kk r h1 T'.heap (locs ++ L) hq (by rw [e1]; exact hR1)
    ⟨Nat.le_trans hS.1 (by rw [e1]; exact hz), fun q h1 h2 => by rw [e1, hk q (Nat.lt_of_lt_of_le h1 hS.1) h2]; exact hS.2.1 q h1 h2, fun q hq => by
      rcases List.mem_append.mp hq with h | h
      · exact hS.2.2 q h
      · exact hL q h⟩ T' rfl X'
  exact ⟨t2, st t2 a1, b1⟩
/-- the words of a call of the method k' from own's pool at idx, with n arguments -/
def mi_cw (P : mi_P) (own : String) (idx k' n : Nat) : Prop := (Cond.code (P.2.2.2.1 k').1 (P.2.2.2.1 k').2.1 (P.2.2.2.1 k').2.2.1 (P.2.2.2.1 k').2.2.2 ∈ P.2.1 ∧ Cond.initialized (P.2.2.2.1 k').1.cls ∈ P.2.1 ∧ (P.2.2.2.1 k').2.2.1 ≤ 13) ∧
  (P.2.2.2.1 k').1.cls ≠ "java/lang/invoke/MethodHandle" ∧ (P.2.2.2.1 k').1.cls ≠ "java/lang/invoke/VarHandle" ∧ (parseMethodDescriptor (P.2.2.2.1 k').1.desc).map (fun d => d.parameters.length) = some n
def mi_cV (P : mi_P) (own : String) (idx k' n : Nat) : Prop := mi_cw P own idx k' n ∧ Cond.methodLink own idx (P.2.2.2.1 k').1 ∈ P.2.1 ∧ Cond.instanceMethod (P.2.2.2.1 k').1 ∈ P.2.1 ∧ Cond.selects (P.2.2.2.1 k').1.cls (P.2.2.2.1 k').1 (P.2.2.2.1 k').1 ∈ P.2.1
def mi_cS (P : mi_P) (own : String) (idx k' n : Nat) : Prop := mi_cw P own idx k' n ∧ Cond.methodLink own idx (P.2.2.2.1 k').1 ∈ P.2.1 ∧ Cond.static (P.2.2.2.1 k').1 ∈ P.2.1
def mi_cI (P : mi_P) (own : String) (idx k' n : Nat) : Prop := mi_cw P own idx k' n ∧ (P.2.2.2.1 k').1.name = "<init>" ∧ (P.2.2.2.1 k').2.2.2 = none ∧ Cond.instanceMethod (P.2.2.2.1 k').1 ∈ P.2.1 ∧ (Cond.methodLink own idx (P.2.2.2.1 k').1 ∈ P.2.1 ∨ ∃ host, Cond.methodLinkNest own idx (P.2.2.2.1 k').1 host ∈ P.2.2.1)
theorem mi_good {P : mi_P} (hg : ∀ w ∈ P.2.1, (w.onTables && w.keeps) = true ∨ ∃ ty, w = .arrayClass ty) {ws : List Cond} (h : ∀ w ∈ ws, w ∈ P.2.1) : GoodIn P.2.1 ws := fun w hw => ⟨h w hw, hg w (h w hw)⟩
theorem mi_sum (ad : Nat → Nat) (st : List Value) : ((st.map (mi_V ad)).map fun v => v.category).sum = (st.map fun v => v.category).sum := by
  rw [List.map_map, show ((fun v : Value => v.category) ∘ mi_V ad) = fun v => v.category from funext fun v => mi_V_cat _ v]
section MIC
variable {P : mi_P} {X : mi_X} {k d mc ms pc : Nat} {lv : mi_L} {st : List Value} {h : mi_H} {Q : Option Value → mi_H → Prop} {tb : List (Nat × Instr)}
set_option maxHeartbeats 4000000 in
theorem mi_callV (ht : mi_tb (P.2.2.2.1 k).2.1 tb) {index k' d' mc' ms' b ci n : Nat} {As : List Value} {fs : List Value} {Q' : Option Value → mi_H → Prop} (hi : mi_at tb pc = some (.invokevirtual index)) (cw : mi_cV P (P.2.2.2.1 k).1.cls index k' n) (hn : As.length = n) (hd : d' + 1 ≤ d) (hE : P.2.2.2.2.2.1 ≤ b) (hb' : b < h.1) (hc : h.2 b = .inr (ci, fs)) (hci : (P.1[ci]?).map (·.1) = some (P.2.2.2.1 k').1.cls) (hst : (st.map fun v => v.category).sum ≤ 8)
    (hS' : mi_S P X k' d' (.ref b :: As) h mc' ms' Q') (w : ∀ (r : Option Value) (h1 : mi_H), Q' r h1 → mi_W P X k d mc ms (pc + 3) lv (r.toList ++ st) h1 Q) : mi_W P X k d (mc + mc') (ms + ms') pc lv (As.reverse ++ .ref b :: st) h Q := by
  intro p l e R s m args below meth c H locs cells slots Z D dA b0 xa ls F hS hmc hms hR hl hZ
  have F0' := F
  obtain ⟨hx, hb, hml, hown, hts, hnm, hg, hnw, hf1, hf2, hU⟩ := F
  obtain ⟨⟨⟨w1, w2, w3⟩, w4⟩, w5, w6, w7⟩ := cw
  have he := mi_w_at (dA := dA) (E := P.2.2.2.2.2.1) (b0 := b0) (xa := xa) (h := h) hE hb'
  rw [hc] at he
  obtain ⟨q, hq1, hq2⟩ := Option.map_eq_some_iff.mp hci
  have hrec := va_recv hU.2.1 hR.2.2 hq1 he
  rw [hq2] at hrec
  have hws : ∀ w ∈ wsV (P.2.2.2.1 k).1.cls index (P.2.2.2.1 k').1.cls (P.2.2.2.1 k').1 (.code (P.2.2.2.1 k').1 (P.2.2.2.1 k').2.1 (P.2.2.2.1 k').2.2.1 (P.2.2.2.1 k').2.2.2 :: P.2.1), w ∈ P.2.1 := by
    intro w hw
    rcases List.mem_append.mp hw with h1 | h1
    · simp only [List.mem_cons, List.not_mem_nil, or_false] at h1
      rcases h1 with rfl | rfl | rfl | rfl <;> assumption
    · rcases List.mem_cons.mp h1 with rfl | h1
      · exact w1
      · exact h1
  have e0 : (As.reverse ++ .ref b :: st).map (mi_V (mi_ad P.2.2.2.2.2.1 b0 xa)) = (As.map (mi_V (mi_ad P.2.2.2.2.2.1 b0 xa))).reverse ++ .ref (mi_ad P.2.2.2.2.2.1 b0 xa b) :: st.map (mi_V (mi_ad P.2.2.2.2.2.1 b0 xa)) := by
    rw [List.map_append, List.map_reverse]; rfl
  rw [e0]
  refine mi_back hU.1 (va_runV ⟨hx, hb, hml, hown, hts⟩ (hS' l D dA b0 xa) (cwV n hts (mi_good hg hws) rfl rfl rfl ⟨rfl, w4⟩ ⟨by show d' + 1 ≤ R.frames; omega, by show 8 + (_ + 11) + 32 * d' ≤ R.locals; omega⟩) ⟨mi_blind hnw, hrec, fun U hU' hW => ⟨rfl, hU.go hS hnw hU' hW, by rw [hU']; exact hR⟩⟩ rfl (by rw [List.length_map]; exact hn) hl.1 rfl (lv_room (by rw [mi_sum]; exact hst)) (ht pc _ (mi_at_mem hi)) ⟨by omega, by omega⟩) hS (fun r h1 H1 locs1 hQ hR1 hS1 => ?_)
  have hw := w r h1 hQ p l e R s m args below meth c H1 locs1 (cells + mc') (slots + ms') Z D dA b0 xa ls F0' hS1 (by omega) (by omega) hR1 hl hZ
  rw [List.map_append] at hw
  cases r <;> exact hw
set_option maxHeartbeats 4000000 in
theorem mi_callS (ht : mi_tb (P.2.2.2.1 k).2.1 tb) {index k' d' mc' ms' n : Nat} {As : List Value} {Q' : Option Value → mi_H → Prop} (hi : mi_at tb pc = some (.invokestatic index)) (cw : mi_cS P (P.2.2.2.1 k).1.cls index k' n) (hn : As.length = n) (hd : d' + 1 ≤ d) (hst : (st.map fun v => v.category).sum ≤ 8)
    (hS' : mi_S P X k' d' As h mc' ms' Q') (w : ∀ (r : Option Value) (h1 : mi_H), Q' r h1 → mi_W P X k d mc ms (pc + 3) lv (r.toList ++ st) h1 Q) : mi_W P X k d (mc + mc') (ms + ms') pc lv (As.reverse ++ st) h Q := by
  intro p l e R s m args below meth c H locs cells slots Z D dA b0 xa ls F hS hmc hms hR hl hZ
  have F0' := F
  obtain ⟨hx, hb, hml, hown, hts, hnm, hg, hnw, hf1, hf2, hU⟩ := F
  obtain ⟨⟨⟨w1, w2, w3⟩, w4⟩, w5, w6⟩ := cw
  have hws : ∀ w ∈ va_wsS (P.2.2.2.1 k).1.cls index (P.2.2.2.1 k').1 (.code (P.2.2.2.1 k').1 (P.2.2.2.1 k').2.1 (P.2.2.2.1 k').2.2.1 (P.2.2.2.1 k').2.2.2 :: P.2.1), w ∈ P.2.1 := by
    intro w hw
    rcases List.mem_append.mp hw with h1 | h1
    · simp only [List.mem_cons, List.not_mem_nil, or_false] at h1
      rcases h1 with rfl | rfl | rfl <;> assumption
    · rcases List.mem_cons.mp h1 with rfl | h1
      · exact w1
      · exact h1
  have e0 : (As.reverse ++ st).map (mi_V (mi_ad P.2.2.2.2.2.1 b0 xa)) = (As.map (mi_V (mi_ad P.2.2.2.2.2.1 b0 xa))).reverse ++ st.map (mi_V (mi_ad P.2.2.2.2.2.1 b0 xa)) := by
    rw [List.map_append, List.map_reverse]
  rw [e0]
  refine mi_back hU.1 (va_runS ⟨hx, hb, hml, hown, hts⟩ (hS' l D dA b0 xa) (va_cwS n hts (mi_good hg hws) rfl rfl rfl w4 ⟨by show d' + 1 ≤ R.frames; omega, by show 8 + (_ + 11) + 32 * d' ≤ R.locals; omega⟩) ⟨mi_blind hnw, fun U hU' hW => ⟨rfl, hU.go hS hnw hU' hW, by rw [hU']; exact hR⟩⟩ rfl (by rw [List.length_map]; exact hn) hl.1 rfl (lv_room (by rw [mi_sum]; exact hst)) (ht pc _ (mi_at_mem hi)) ⟨by omega, by omega⟩) hS (fun r h1 H1 locs1 hQ hR1 hS1 => ?_)
  have hw := w r h1 hQ p l e R s m args below meth c H1 locs1 (cells + mc') (slots + ms') Z D dA b0 xa ls F0' hS1 (by omega) (by omega) hR1 hl hZ
  rw [List.map_append] at hw
  cases r <;> exact hw
set_option maxHeartbeats 4000000 in
theorem mi_callI (ht : mi_tb (P.2.2.2.1 k).2.1 tb) {index k' d' mc' ms' b n : Nat} {As : List Value} {Q' : Option Value → mi_H → Prop} (hi : mi_at tb pc = some (.invokespecial index)) (cw : mi_cI P (P.2.2.2.1 k).1.cls index k' n) (hn : As.length = n) (hd : d' + 1 ≤ d) (hst : (st.map fun v => v.category).sum ≤ 8)
    (hS' : mi_S P X k' d' (.ref b :: As) h mc' ms' Q') (w : ∀ (r : Option Value) (h1 : mi_H), Q' r h1 → mi_W P X k d mc ms (pc + 3) lv (r.toList ++ st) h1 Q) : mi_W P X k d (mc + mc') (ms + ms') pc lv (As.reverse ++ .ref b :: st) h Q := by
  intro p l e R s m args below meth c H locs cells slots Z D dA b0 xa ls F hS hmc hms hR hl hZ
  have F0' := F
  obtain ⟨hx, hb, hml, hown, hts, hnm, hg, hnw, hf1, hf2, hU⟩ := F
  obtain ⟨⟨⟨w1, w2, w3⟩, w4⟩, w5, w8, w6, w7⟩ := cw
  have hM := hS' l D dA b0 xa
  rw [w8] at w1 hM
  have hws : ∀ w ∈ (.code (P.2.2.2.1 k').1 (P.2.2.2.1 k').2.1 (P.2.2.2.1 k').2.2.1 none :: P.2.1), w ∈ P.2.1 := by
    intro w hw
    rcases List.mem_cons.mp hw with rfl | h1
    · exact w1
    · exact h1
  have e0 : (As.reverse ++ .ref b :: st).map (mi_V (mi_ad P.2.2.2.2.2.1 b0 xa)) = (As.map (mi_V (mi_ad P.2.2.2.2.2.1 b0 xa))).reverse ++ .ref (mi_ad P.2.2.2.2.2.1 b0 xa b) :: st.map (mi_V (mi_ad P.2.2.2.2.2.1 b0 xa)) := by
    rw [List.map_append, List.map_reverse]; rfl
  rw [e0]
  have hroom : d' + 1 ≤ R.frames ∧ 8 + ((P.2.2.2.1 k').2.2.1 + 11) + 32 * d' ≤ R.locals := ⟨by omega, by omega⟩
  have hpre : PreS s H (va_Pc ((Value.ref b :: As).map (mi_V (mi_ad P.2.2.2.2.2.1 b0 xa))) (fun U => mi_U P X D dA b0 xa U ∧ mi_R P D dA b0 xa U.heap h)) (.ref (mi_ad P.2.2.2.2.2.1 b0 xa b) :: As.map (mi_V (mi_ad P.2.2.2.2.2.1 b0 xa))) := ⟨mi_blind hnw, fun U hU' hW => ⟨rfl, hU.go hS hnw hU' hW, by rw [hU']; exact hR⟩⟩
  have hlast : ∀ (r : Option Value) (h1 : mi_H) (H1 : Heap) (locs1 : List Loc), Q' r h1 → mi_R P D dA b0 xa H1 h1 → va_S (fun q => b0 ≤ q) s.heap H1 locs1 → W p l e R s m args below meth c H1 locs1 (cells + mc') (slots + ms') Z (F0 m (pc + 3) ls ((r.map (mi_V (mi_ad P.2.2.2.2.2.1 b0 xa))).toList ++ st.map (mi_V (mi_ad P.2.2.2.2.2.1 b0 xa)))) := by
    intro r h1 H1 locs1 hQ hR1 hS1
    have hw := w r h1 hQ p l e R s m args below meth c H1 locs1 (cells + mc') (slots + ms') Z D dA b0 xa ls F0' hS1 (by omega) (by omega) hR1 hl hZ
    rw [List.map_append] at hw
    cases r <;> exact hw
  rcases w7 with w7 | ⟨host, w7⟩
  · exact mi_back hU.1 (va_runI ⟨hx, hb, hml, hown, hts⟩ hM (cwI n hts (mi_good hg hws) rfl rfl rfl (hts _ w2) (hts _ w7) (hts _ w6) w5 w4 hroom) hpre rfl (by rw [List.length_map]; exact hn) hl.1 rfl (lv_room (by rw [mi_sum]; exact hst)) (ht pc _ (mi_at_mem hi)) ⟨by omega, by omega⟩) hS hlast
  · exact mi_back hU.1 (va_runIN ⟨hx, hb, hml, hown, hts⟩ hM ⟨va_cnB n hts (mi_good hg hws) rfl rfl rfl (hU.2.2.2.2 _ w7) (hts _ w2) w4 hroom, w5, hts _ w6⟩ hpre rfl (by rw [List.length_map]; exact hn) hl.1 rfl (lv_room (by rw [mi_sum]; exact hst)) (ht pc _ (mi_at_mem hi)) ⟨by omega, by omega⟩) hS hlast
end MIC
end
