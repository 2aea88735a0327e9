/-! A MACHINE OVER NUMBERS: cells at 0, 1, 2 .. (the first E of them stand outside: rows of ints that nobody writes), states as plain values; mi_W is W over such a state, mi_S a contract of a method over it. One row an instruction, for every method alike: what a method does is then said, and proved, of plain values alone. -/
abbrev mi_C : Type := (Nat × vp_A) ⊕ (Nat × List Value)
abbrev mi_H : Type := Nat × (Nat → mi_C)
abbrev mi_L : Type := List (Nat × Value)
abbrev mi_M : Type := MethodName × ByteArray × Nat × Option FieldType
/-- its kinds of objects, the words that all methods rest on, the words that bear a nest, its methods, its kinds of arrays, how many cells stand outside (the last one of any kind), the statics that name one of these, its tables of handlers, what else stands outside -/
abbrev mi_P : Type := List vw_C × List Cond × List Cond × (Nat → mi_M) × List FieldType × Nat × List (String × String × String × Nat) × (Nat → List (Nat × Nat × Nat × Nat)) × (Nat → State → Heap → Prop)
abbrev mi_X : Type := Nat → Nat × (Nat → Int32)
def mi_V (ad : Nat → Nat) (v : Value) : Value := match v with
  | .ref a => .ref (ad a)
  | w => w
def mi_z (ad : Nat → Nat) (z : (Nat → Int32) ⊕ (Nat → Int64) ⊕ (Nat → UInt32) ⊕ (Nat → UInt64) ⊕ (Nat → Option Nat)) : (Nat → Int32) ⊕ (Nat → Int64) ⊕ (Nat → UInt32) ⊕ (Nat → UInt64) ⊕ (Nat → Option Nat) := match z with
  | .inl f => .inl f
  | .inr (.inl f) => .inr (.inl f)
  | .inr (.inr (.inl f)) => .inr (.inr (.inl f))
  | .inr (.inr (.inr (.inl f))) => .inr (.inr (.inr (.inl f)))
  | .inr (.inr (.inr (.inr f))) => .inr (.inr (.inr (.inr (fun i => (f i).map ad))))
def mi_e (dA : Nat → ClassId) (ad : Nat → Nat) (c : mi_C) : va_E := match c with
  | .inl x => .inl (dA x.1, x.2.1, mi_z ad x.2.2)
  | .inr o => .inr (o.1, o.2.map (mi_V ad))
def mi_ad (E b0 : Nat) (xa : Nat → Nat) (a : Nat) : Nat := if a < E then xa a else b0 + (a - E)
def mi_w (dA : Nat → ClassId) (E b0 : Nat) (xa : Nat → Nat) (h : mi_H) : va_W := (List.range' E (h.1 - E)).map (fun a => (mi_ad E b0 xa a, mi_e dA (mi_ad E b0 xa) (h.2 a)))
def mi_tys (P : mi_P) (dA : Nat → ClassId) : List (ClassId × FieldType) := P.2.2.2.2.1.zipIdx.map (fun q => (dA q.2, q.1))
/-- the heap holds the cells -/
def mi_R (P : mi_P) (D : va_G) (dA : Nat → ClassId) (b0 : Nat) (xa : Nat → Nat) (H : Heap) (h : mi_H) : Prop :=
  P.2.2.2.2.2.1 ≤ h.1 ∧ H.size = b0 + (h.1 - P.2.2.2.2.2.1) ∧ va_P D P.1 (mi_w dA P.2.2.2.2.2.1 b0 xa h) H
/-- what stands outside, and what the tables tell -/
def mi_U (P : mi_P) (X : mi_X) (D : va_G) (dA : Nat → ClassId) (b0 : Nat) (xa : Nat → Nat) (U : State) : Prop :=
  b0 ≤ U.heap.size ∧ va_K D P.1 (mi_tys P dA) U ∧ (∀ a, a + 1 < P.2.2.2.2.2.1 → va_T .int (xa a) (X a).1 (fun j => .int ((X a).2 j)) (fun q => b0 ≤ q) U U.heap) ∧
  ((∀ q ∈ P.2.2.2.2.2.2.1, q.2.2.2 < P.2.2.2.2.2.1 ∧ va_Z q.1 q.2.1 q.2.2.1 (.ref (xa q.2.2.2)) (fun q => b0 ≤ q) U U.heap) ∧ P.2.2.2.2.2.2.2.2 b0 U U.heap) ∧ ∀ w ∈ P.2.2.1, va_Nw w U
/-- the words that bear a nest, and what else stands outside, last -/
def mi_nw (P : mi_P) : Prop := (∀ w ∈ P.2.2.1, (∃ a i b n d h, w = .fieldLinkNest a i b n d h) ∨ (∃ a i x h, w = .methodLinkNest a i x h) ∨ (∃ C, w = .arrayOver (.object C)) ∨ ∃ t, w = .arrayOver (.array t)) ∧ (∀ (b0 : Nat) (s U : State) (H : Heap), s.WarmedH U.vm → P.2.2.2.2.2.2.2.2 b0 s H → P.2.2.2.2.2.2.2.2 b0 U H) ∧ ∀ (b0 : Nat) (U : State) (H H1 : Heap), (∀ a : Nat, a < H.size → ¬ b0 ≤ a → H1[a]? = H[a]?) → P.2.2.2.2.2.2.2.2 b0 U H → P.2.2.2.2.2.2.2.2 b0 U H1
/-- what stays all through a body of the method k at the depth d -/
def mi_F (P : mi_P) (X : mi_X) (k d : Nat) (p : Program) (l : Launch) (R : Room) (s : State) (m : MethodId) (args : Array Value) (meth : Method) (c : Code) (D : va_G) (dA : Nat → ClassId) (b0 : Nat) (xa : Nat → Nat) : Prop :=
  p.tables.exec = Jvm.exec ∧ c.code = (P.2.2.2.1 k).2.1 ∧ c.maxLocals = (P.2.2.2.1 k).2.2.1 ∧ s.vm.findClass (P.2.2.2.1 k).1.cls = some m.cls ∧ (∀ w ∈ P.2.1, w.before args s = true) ∧ (((P.2.2.2.1 k).1.name = "<init>" → meth.name = "<init>") ∧ c.exceptionTable.toList = tableOf (P.2.2.2.2.2.2.2.1 k) ∧ l.stackTraces = false) ∧
  (∀ w ∈ P.2.1, (w.onTables && w.keeps) = true ∨ ∃ ty, w = .arrayClass ty) ∧ mi_nw P ∧ d ≤ R.frames ∧ 32 * d ≤ R.locals ∧ mi_U P X D dA b0 xa s
def mi_rt (cc : ByteArray) (pc : Nat) (ret : Option FieldType) (r : Option Value) : Prop := match r with
  | none => decode cc pc = .ok (.return_, 1) ∧ ret = none
  | some (.int v) => decode cc pc = .ok (.ireturn, 1) ∧ ∃ ty, ret = some ty ∧ narrow ty (.int v) = .int v
  | some (.long _) => decode cc pc = .ok (.lreturn, 1) ∧ ret = some .long
  | some (.float _) => decode cc pc = .ok (.freturn, 1) ∧ ret = some .float
  | some (.double _) => decode cc pc = .ok (.dreturn, 1) ∧ ret = some .double
  | some .null => decode cc pc = .ok (.areturn, 1) ∧ ∃ rt, ret = some rt ∧ ((∃ n, rt = .object n) ∨ ∃ t, rt = .array t)
  | some (.ref _) => decode cc pc = .ok (.areturn, 1) ∧ ∃ rt, ret = some rt ∧ ((∃ n, rt = .object n) ∨ ∃ t, rt = .array t)
  | some (.retAddr _) => False
def mi_lv (ad : Nat → Nat) (lv : mi_L) : mi_L := lv.map (fun q => (q.1, mi_V ad q.2))
/-- the frame g, with the thing at q thrown over it -/
def mi_T (p : Program) (l : Launch) (e : Env) (R : Room) (s : State) (m : MethodId) (args : Array Value) (below : List Frame) (meth : Method) (c : Code) (H : Heap) (locs : List Loc) (cells slots : Nat) (Q : State → Prop) (g : JFrame) (q : Addr) : Prop :=
  ∀ T : State, T.heap = H → Stand p l e R s m args below meth c T locs cells slots → ∃ t, Steps p.tables e below ((T.setTop g).pushFrame (.throwing q)) t ∧ Q t
/-- W over plain values: from the place pc, with locals lv, the operand stack st and the cells h, room for mc cells of ms slots: a return with Q comes, or the throw of a thing of the kind ce at a, with QX -/
def mi_WX (QX : Nat → Nat → mi_H → Prop) (P : mi_P) (X : mi_X) (k d mc ms pc : Nat) (lv : mi_L) (st : List Value) (h : mi_H) (Q : Option Value → mi_H → Prop) : Prop :=
  ∀ (p : Program) (l : Launch) (e : Env) (R : Room) (s : State) (m : MethodId) (args : Array Value) (below : List Frame) (meth : Method) (c : Code) (H : Heap) (locs : List Loc) (cells slots : Nat) (Z : State → Prop) (D : va_G) (dA : Nat → ClassId) (b0 : Nat) (xa : Nat → Nat) (ls : Array Slot),
    mi_F P X k d p l R s m args meth c D dA b0 xa → va_S (fun q => b0 ≤ q) s.heap H locs → cells + mc ≤ R.cells → slots + ms ≤ R.slots → mi_R P D dA b0 xa H h → lv_has ls (P.2.2.2.1 k).2.2.1 (mi_lv (mi_ad P.2.2.2.2.2.1 b0 xa) lv) →
    ((∀ (H1 : Heap) (locs1 : List Loc) (cells1 slots1 : Nat) (h1 : mi_H) (r : Option Value) (pc1 : Nat) (ls1 : Array Slot), va_S (fun q => b0 ≤ q) s.heap H1 locs1 → cells1 ≤ R.cells → slots1 ≤ R.slots → mi_R P D dA b0 xa H1 h1 → Q r h1 → mi_rt (P.2.2.2.1 k).2.1 pc1 (P.2.2.2.1 k).2.2.2 r →
      W p l e R s m args below meth c H1 locs1 cells1 slots1 Z (F0 m pc1 ls1 (r.toList.map (mi_V (mi_ad P.2.2.2.2.2.1 b0 xa))))) ∧
    (∀ (H1 : Heap) (locs1 : List Loc) (cells1 slots1 : Nat) (h1 : mi_H) (ce a pc1 : Nat) (ls1 : Array Slot) (st1 : List Value), va_S (fun q => b0 ≤ q) s.heap H1 locs1 → cells1 ≤ R.cells → slots1 ≤ R.slots → mi_R P D dA b0 xa H1 h1 → (P.2.2.2.2.2.1 ≤ a ∧ a < h1.1 ∧ h1.2 a = .inr (ce, [])) → QX ce a h1 → (∀ x ∈ c.exceptionTable.toList, covers x pc1 = false) →
      mi_T p l e R s m args below meth c H1 locs1 cells1 slots1 Z (F0 m pc1 ls1 st1) (mi_ad P.2.2.2.2.2.1 b0 xa a))) →
    W p l e R s m args below meth c H locs cells slots Z (F0 m pc ls (st.map (mi_V (mi_ad P.2.2.2.2.2.1 b0 xa))))
/-- .. that throws nothing -/
abbrev mi_W (P : mi_P) (X : mi_X) (k d mc ms pc : Nat) (lv : mi_L) (st : List Value) (h : mi_H) (Q : Option Value → mi_H → Prop) : Prop := mi_WX (fun _ _ _ => False) P X k d mc ms pc lv st h Q
/-- the contract of the method k over plain values: from these arguments and cells it returns, with Q -/
def mi_S (P : mi_P) (X : mi_X) (k d : Nat) (avs : List Value) (h : mi_H) (mc ms : Nat) (Q : Option Value → mi_H → Prop) : Prop :=
  ∀ (l : Launch), l.stackTraces = false → ∀ (D : va_G) (dA : Nat → ClassId) (b0 : Nat) (xa : Nat → Nat), Met l (P.2.2.2.1 k).1 (.code (P.2.2.2.1 k).1 (P.2.2.2.1 k).2.1 (P.2.2.2.1 k).2.2.1 (P.2.2.2.1 k).2.2.2 :: P.2.1) { frames := d, cells := mc, slots := ms, locals := 32 * d }
    (va_Pc (avs.map (mi_V (mi_ad P.2.2.2.2.2.1 b0 xa))) (fun U => mi_U P X D dA b0 xa U ∧ mi_R P D dA b0 xa U.heap h))
    (fun _ st o t => (∃ (r : Option Value) (h1 : mi_H), o = .returned (r.map (mi_V (mi_ad P.2.2.2.2.2.1 b0 xa))) ∧ Q r h1 ∧ mi_R P D dA b0 xa t.heap h1) ∧ va_F (fun q => b0 ≤ q) st t) mc ms (fun q => b0 ≤ q)
/-- a program in order: its words are of the lasting kinds -/
def mi_ok (P : mi_P) : Prop := (∀ w ∈ P.2.1, (w.onTables && w.keeps) = true ∨ ∃ ty, w = .arrayClass ty) ∧ mi_nw P
-- the cells as a list
theorem mi_w_at {dA : Nat → ClassId} {E b0 : Nat} {xa : Nat → Nat} {h : mi_H} {a : Nat} (h1 : E ≤ a) (h2 : a < h.1) : (mi_w dA E b0 xa h)[a - E]? = some (mi_ad E b0 xa a, mi_e dA (mi_ad E b0 xa) (h.2 a)) := by
  unfold mi_w
  rw [List.getElem?_map, List.getElem?_range' (by omega)]
  simp only [Option.map_some, Nat.one_mul]
  rw [show E + (a - E) = a by omega]
theorem mi_w_in {dA : Nat → ClassId} {E b0 : Nat} {xa : Nat → Nat} {h : mi_H} {j : Nat} {q : Nat × va_E} (hq : (mi_w dA E b0 xa h)[j]? = some q) : E + j < h.1 ∧ q = (mi_ad E b0 xa (E + j), mi_e dA (mi_ad E b0 xa) (h.2 (E + j))) := by
  have hl : j < h.1 - E := by
    have := (List.getElem?_eq_some_iff.mp hq).1
    unfold mi_w at this
    rwa [List.length_map, List.length_range'] at this
  have h1 := mi_w_at (dA := dA) (E := E) (b0 := b0) (xa := xa) (h := h) (a := E + j) (by omega) (by omega)
  rw [show E + j - E = j by omega, hq] at h1
  exact ⟨by omega, Option.some.inj h1⟩
theorem mi_w_D {dA : Nat → ClassId} {E b0 : Nat} {xa : Nat → Nat} {h : mi_H} : va_D (fun q => b0 ≤ q) (mi_w dA E b0 xa h) := by
  refine ⟨fun i j p q hp hq e => ?_, fun k q hq => ?_⟩
  · rw [(mi_w_in hp).2, (mi_w_in hq).2] at e
    have e : mi_ad E b0 xa (E + i) = mi_ad E b0 xa (E + j) := e
    unfold mi_ad at e
    rw [if_neg (by omega), if_neg (by omega)] at e
    omega
  · rw [(mi_w_in hq).2]
    show b0 ≤ mi_ad E b0 xa (E + k)
    unfold mi_ad
    rw [if_neg (by omega)]
    omega
theorem mi_w_set {dA : Nat → ClassId} {E b0 : Nat} {xa : Nat → Nat} {h : mi_H} {a : Nat} (h1 : E ≤ a) (h2 : a < h.1) (c : mi_C) : (mi_w dA E b0 xa h).set (a - E) (mi_ad E b0 xa a, mi_e dA (mi_ad E b0 xa) c) = mi_w dA E b0 xa (h.1, va_up h.2 a c) := by
  apply List.ext_getElem?
  intro j
  by_cases hj : j = a - E
  · subst hj
    have hl : a - E < (mi_w dA E b0 xa h).length := (List.getElem?_eq_some_iff.mp (mi_w_at h1 h2)).1
    rw [List.getElem?_set_self hl, mi_w_at (h := (h.1, va_up h.2 a c)) h1 h2]
    show _ = some (_, mi_e dA _ (va_up h.2 a c a))
    rw [show va_up h.2 a c a = c from if_pos rfl]
  · rw [List.getElem?_set_ne (Ne.symm hj)]
    unfold mi_w
    rw [List.getElem?_map, List.getElem?_map]
    by_cases hl : j < h.1 - E
    · rw [List.getElem?_range' hl, Option.map_some, Option.map_some]
      show some (_, mi_e dA _ (h.2 (E + 1 * j))) = some (_, mi_e dA _ (va_up h.2 a c (E + 1 * j)))
      rw [show va_up h.2 a c (E + 1 * j) = h.2 (E + 1 * j) from if_neg (by omega)]
    · rw [List.getElem?_eq_none (by rw [List.length_range']; omega)]
      rfl
theorem mi_w_push {dA : Nat → ClassId} {E b0 : Nat} {xa : Nat → Nat} {h : mi_H} (h1 : E ≤ h.1) (c : mi_C) : mi_w dA E b0 xa h ++ [(b0 + (h.1 - E), mi_e dA (mi_ad E b0 xa) c)] = mi_w dA E b0 xa (h.1 + 1, va_up h.2 h.1 c) := by
  unfold mi_w
  show _ = (List.range' E (h.1 + 1 - E)).map (fun a => (mi_ad E b0 xa a, mi_e dA (mi_ad E b0 xa) (va_up h.2 h.1 c a)))
  rw [show h.1 + 1 - E = (h.1 - E) + 1 by omega, List.range'_1_concat, List.map_append]
  congr 1
  · apply List.map_congr_left
    intro a ha
    have := List.mem_range'_1.mp ha
    rw [show va_up h.2 h.1 c a = h.2 a from if_neg (by omega)]
  · rw [show E + (h.1 - E) = h.1 by omega]
    show [_] = [(mi_ad E b0 xa h.1, mi_e dA (mi_ad E b0 xa) (va_up h.2 h.1 c h.1))]
    rw [show va_up h.2 h.1 c h.1 = c from if_pos rfl, show mi_ad E b0 xa h.1 = b0 + (h.1 - E) by unfold mi_ad; rw [if_neg (by omega)]]
