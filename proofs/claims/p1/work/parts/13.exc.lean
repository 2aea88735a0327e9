-- throws over plain values
section MIT
variable {QX : Nat → Nat → mi_H → Prop} {P : mi_P} {X : mi_X} {k d mc ms pc : Nat} {lv : mi_L} {st : List Value} {h : mi_H} {Q : Option Value → mi_H → Prop} {tb : List (Nat × Instr)}
/-- the cell a is a thing of the kind ce, with nothing in it that is named -/
def mi_cX (P : mi_P) (h : mi_H) (ce a : Nat) : Prop := P.2.2.2.2.2.1 ≤ a ∧ a < h.1 ∧ h.2 a = .inr (ce, [])
/-- from the place pc, with the thing at a thrown over the frame -/
def mi_TX (QX : Nat → Nat → mi_H → Prop) (P : mi_P) (X : mi_X) (k d mc ms pc : Nat) (lv : mi_L) (a : Nat) (h : mi_H) (Q : Option Value → mi_H → Prop) : Prop :=
  ∀ (p : Program) (l : Launch) (e : Env) (R : Room) (s : State) (m : MethodId) (args : Array Value) (below : List Frame) (meth : Method) (c : Code) (H : Heap) (locs : List Loc) (cells slots : Nat) (Z : State → Prop) (D : va_G) (dA : Nat → ClassId) (b0 : Nat) (xa : Nat → Nat) (ls : Array Slot) (st1 : List Value),
    mi_F P X k d p l R s m args meth c D dA b0 xa → va_S (fun q => b0 ≤ q) s.heap H locs → cells + mc ≤ R.cells → slots + ms ≤ R.slots → mi_R P D dA b0 xa H h → lv_has ls (P.2.2.2.1 k).2.2.1 (mi_lv (mi_ad P.2.2.2.2.2.1 b0 xa) lv) →
    ((∀ (H1 : Heap) (locs1 : List Loc) (cells1 slots1 : Nat) (h1 : mi_H) (r : Option Value) (pc1 : Nat) (ls1 : Array Slot), va_S (fun q => b0 ≤ q) s.heap H1 locs1 → cells1 ≤ R.cells → slots1 ≤ R.slots → mi_R P D dA b0 xa H1 h1 → Q r h1 → mi_rt (P.2.2.2.1 k).2.1 pc1 (P.2.2.2.1 k).2.2.2 r →
      W p l e R s m args below meth c H1 locs1 cells1 slots1 Z (F0 m pc1 ls1 (r.toList.map (mi_V (mi_ad P.2.2.2.2.2.1 b0 xa))))) ∧
    (∀ (H1 : Heap) (locs1 : List Loc) (cells1 slots1 : Nat) (h1 : mi_H) (ce a pc1 : Nat) (ls1 : Array Slot) (st1 : List Value), va_S (fun q => b0 ≤ q) s.heap H1 locs1 → cells1 ≤ R.cells → slots1 ≤ R.slots → mi_R P D dA b0 xa H1 h1 → (P.2.2.2.2.2.1 ≤ a ∧ a < h1.1 ∧ h1.2 a = .inr (ce, [])) → QX ce a h1 → (∀ x ∈ c.exceptionTable.toList, covers x pc1 = false) →
      mi_T p l e R s m args below meth c H1 locs1 cells1 slots1 Z (F0 m pc1 ls1 st1) (mi_ad P.2.2.2.2.2.1 b0 xa a))) →
    mi_T p l e R s m args below meth c H locs cells slots Z (F0 m pc ls st1) (mi_ad P.2.2.2.2.2.1 b0 xa a)
/-- no handler here: it leaves the method -/
theorem mi_TX.out {ce a : Nat} (hc : mi_cX P h ce a) (hq : QX ce a h) (ho : ∀ x ∈ tableOf (P.2.2.2.2.2.2.2.1 k), covers x pc = false) : mi_TX QX P X k d mc ms pc lv a h Q := by
  intro p l e R s m args below meth c H locs cells slots Z D dA b0 xa ls st1 F hS hmc hms hR hl hZ
  exact hZ.2 H locs cells slots h ce a pc ls st1 hS (by omega) (by omega) hR hc hq (by rw [F.2.2.2.2.2.1.2.1]; exact ho)
/-- the cell of a thing that is thrown, in the heap -/
theorem mi_cell {D : va_G} {dA : Nat → ClassId} {b0 : Nat} {xa : Nat → Nat} {s : State} {H : Heap} {ce a : Nat} {E : String} (hU : mi_U P X D dA b0 xa s) (hR : mi_R P D dA b0 xa H h) (hc : mi_cX P h ce a) (hE : (P.1[ce]?).map (·.1) = some E) : ∃ cell : Cell, H[mi_ad P.2.2.2.2.2.1 b0 xa a]? = some cell ∧ cell.vm = .none ∧ s.vm.findClass E = some cell.cls := by
  obtain ⟨c1, c2, c3⟩ := hc
  have he := mi_w_at (dA := dA) (E := P.2.2.2.2.2.1) (b0 := b0) (xa := xa) (h := h) c1 c2
  rw [c3] at he
  obtain ⟨r, hr, cell, q1, q2, q3, -⟩ := hR.2.2 _ _ he
  have hr9 : P.1[ce]? = some r := hr
  have hf := (hU.2.1.1 ce r hr9).2.1
  rw [hr9] at hE
  have hE9 : r.1 = E := Option.some.inj hE
  exact ⟨cell, q1, q3, by rw [← hE9, hf, q2]⟩
set_option maxHeartbeats 4000000 in
/-- a handler takes it: the row x of the table, past rows that name other classes -/
theorem mi_TX.take {ce a : Nat} {E nm : String} (hc : mi_cX P h ce a) (hE : (P.1[ce]?).map (·.1) = some E) (pre : List ExceptionTableEntry) (x : ExceptionTableEntry) (suf : List ExceptionTableEntry) (hsplit : tableOf (P.2.2.2.2.2.2.2.1 k) = pre ++ x :: suf)
    (hpass : ∀ z ∈ pre, covers z pc = false ∨ (z.catchType ≠ 0 ∧ ∃ nm : String, Cond.classLink (P.2.2.2.1 k).1.cls z.catchType nm ∈ P.2.1 ∧ ∀ (b0 : Nat) (U : State) (H : Heap), P.2.2.2.2.2.2.2.2 b0 U H → va_Nc E nm U)) (hx : covers x pc = true) (h0 : x.catchType ≠ 0)
    (hlink : Cond.classLink (P.2.2.2.1 k).1.cls x.catchType nm ∈ P.2.1) (hcast : ∀ (b0 : Nat) (U : State) (H : Heap), P.2.2.2.2.2.2.2.2 b0 U H → va_Nw (.castable E nm) U) (w : mi_WX QX P X k d mc ms x.handlerPc lv [.ref a] h Q) : mi_TX QX P X k d mc ms pc lv a h Q := by
  intro p l e R s m args below meth c H locs cells slots Z D dA b0 xa ls st1 F hS hmc hms hR hl hZ
  have hw := w p l e R s m args below meth c H locs cells slots Z D dA b0 xa ls F hS hmc hms hR hl hZ
  obtain ⟨hx', hb, hml, hown, hts, hnm, hg, hnw, hf1, hf2, hU⟩ := F
  obtain ⟨cell, q1, q2, q3⟩ := mi_cell hU hR hc hE
  exact vx_catch (own := (P.2.2.2.1 k).1.cls) (name := nm) (E := E) (ce := cell) hown pre x suf (by rw [hnm.2.1]; exact hsplit) (fun z hz => by
    rcases hpass z hz with h1 | ⟨h1, n1, h2, h3⟩
    · exact Or.inl h1
    · exact Or.inr ⟨h1, n1, hts _ h2, h3 _ _ _ hU.2.2.2.1.2⟩) hx h0 (hts _ hlink) (va_Nw.use rfl (hcast _ _ _ hU.2.2.2.1.2)) q1 q2 q3 hw
/-- athrow -/
theorem mi_athrow (ht : mi_tb (P.2.2.2.1 k).2.1 tb) {a : Nat} (hi : mi_at tb pc = some .athrow) (w : mi_TX QX P X k d mc ms pc lv a h Q) : mi_WX QX P X k d mc ms pc lv (.ref a :: st) h Q := by
  intro p l e R s m args below meth c H locs cells slots Z D dA b0 xa ls F hS hmc hms hR hl hZ
  exact vx_athrow F.1 F.2.1 (ht pc _ (mi_at_mem hi)) (w p l e R s m args below meth c H locs cells slots Z D dA b0 xa ls _ F hS hmc hms hR hl hZ)
/-- the words of 'new E("text")' -/
def mi_xw (P : mi_P) (own : String) (ik is ic ce : Nat) (cls text : String) (names : List String) : Prop :=
  ((P.1[ce]?).map (fun q => (q.1, q.2.2)) = some (cls, 0) ∧ Bundle.fit cls = true ∧ ∀ n ∈ names, Bundle.fit n = true) ∧ (∀ w ∈ Cond.classLink own ik cls :: Cond.initialized cls :: vx_atS own ic cls names, (w ∈ P.2.1 ∨ w.onTables = true ∧ ∀ (b0 : Nat) (U : State) (H : Heap), P.2.2.2.2.2.2.2.2 b0 U H → va_Nw w U) ∧ vx_ot w = true) ∧
  (∀ (b0 : Nat) (U : State) (H : Heap), P.2.2.2.2.2.2.2.2 b0 U H → vx_Zq Bundle.tN "UNASSIGNED_STACK" Bundle.steD (fun q => b0 ≤ q) U H ∧ vx_Zq Bundle.tN "SUPPRESSED_SENTINEL" Bundle.listD (fun q => b0 ≤ q) U H ∧ ∃ sa : Nat, vk_R own is text sa U)
theorem mi_xw.at {own : String} {ik is ic ce : Nat} {cls text : String} {names : List String} (xw : mi_xw P own ik is ic ce cls text names) {args : Array Value} {b0 : Nat} {s : State} {H : Heap} (hts : ∀ w ∈ P.2.1, w.before args s = true) (hK : P.2.2.2.2.2.2.2.2 b0 s H) : ∀ w ∈ Cond.classLink own ik cls :: Cond.initialized cls :: vx_atS own ic cls names, w.before args s = true := by
  intro w hw
  rcases (xw.2.1 w hw).1 with h | ⟨h1, h2⟩
  · exact hts w h
  · exact va_Nw.use h1 (h2 _ _ _ hK)
theorem mi_psR {D : va_G} {dA : Nat → ClassId} {b0 : Nat} {xa : Nat → Nat} {H : Heap} (hR : mi_R P D dA b0 xa H h) : mi_ad P.2.2.2.2.2.1 b0 xa h.1 = H.size := by
  unfold mi_ad
  rw [if_neg (by have := hR.1; omega), hR.2.1]
set_option maxHeartbeats 4000000 in
/-- new E("text") -/
theorem mi_mkx (ht : mi_tb (P.2.2.2.1 k).2.1 tb) {ik is ic ce : Nat} {cls text : String} {names : List String} (hi0 : mi_at tb pc = some (.new ik)) (hi3 : mi_at tb (pc + 3) = some .dup) (hi4 : mi_at tb (pc + 4) = some (.ldc is)) (hi6 : mi_at tb (pc + 6) = some (.invokespecial ic))
    (xw : mi_xw P (P.2.2.2.1 k).1.cls ik is ic ce cls text names) (hd : names.length + 3 < d) (hst : (st.map fun v => v.category).sum ≤ 8)
    (w : mi_WX QX P X k d mc ms (pc + 9) lv (.ref h.1 :: st) (h.1 + 1, va_up h.2 h.1 (.inr (ce, []))) Q) : mi_WX QX P X k d (mc + 1) (ms + 6) pc lv st h Q := by
  intro p l e R s m args below meth c H locs cells slots Z D dA b0 xa ls F hS hmc hms hR hl hZ
  have F0' := F
  obtain ⟨hx, hb, hml, hown, hts, hnm, hg, hnw, hf1, hf2, hU⟩ := F
  have hat := xw.at hts hU.2.2.2.1.2
  obtain ⟨⟨h1, h2, h3⟩, h4, h5⟩ := xw
  obtain ⟨u1, u2, sa, u3⟩ := h5 _ _ _ hU.2.2.2.1.2
  obtain ⟨⟨C, T0, N⟩, g1, g2⟩ := Option.map_eq_some_iff.mp h1
  cases g2
  have ea := mi_psR (P := P) hR
  have hr : ((st.map (mi_V (mi_ad P.2.2.2.2.2.1 b0 xa))).map fun v => v.category).sum ≤ 8 := by rw [mi_sum]; exact hst
  refine vx_makeS (T0 := T0) (ci := ce) hx hb hnm.2.2 hown h2 h3 (hat _ List.mem_cons_self) (hat _ (List.mem_cons_of_mem _ List.mem_cons_self)) u3 (fun w hw => hat w (List.mem_cons_of_mem _ (List.mem_cons_of_mem _ hw))) (fun w hw => (h4 w hw).2) u1 u2 hS (hl.1.trans hml.symm)
    (ht _ _ (mi_at_mem hi0)) (ht _ _ (mi_at_mem hi3)) (ht _ _ (mi_at_mem hi4)) (ht _ _ (mi_at_mem hi6)) hU.2.1 g1 (by omega) (by omega) (by omega) (by omega) fun H1 z1 o1 e1 hS1 => ?_
  have hw := w p l e R s m args below meth c H1 locs (cells + 1) (slots + 6) Z D dA b0 xa ls F0' hS1 (by omega) (by omega) (hR.push (.inr (ce, [])) e1 z1 o1) hl hZ
  rw [List.map_cons, show mi_V (mi_ad P.2.2.2.2.2.1 b0 xa) (.ref h.1) = .ref H.size from congrArg Value.ref ea] at hw
  exact hw
set_option maxHeartbeats 4000000 in
theorem mi_mkxW (ht : mi_tb (P.2.2.2.1 k).2.1 tb) {ik is ic ce : Nat} {cls text : String} {names : List String} (hi0 : mi_at tb pc = some (.new ik)) (hi3 : mi_at tb (pc + 3) = some .dup) (hi4 : mi_at tb (pc + 4) = some (.ldc_w is)) (hi6 : mi_at tb (pc + 7) = some (.invokespecial ic))
    (xw : mi_xw P (P.2.2.2.1 k).1.cls ik is ic ce cls text names) (hd : names.length + 3 < d) (hst : (st.map fun v => v.category).sum ≤ 8)
    (w : mi_WX QX P X k d mc ms (pc + 10) lv (.ref h.1 :: st) (h.1 + 1, va_up h.2 h.1 (.inr (ce, []))) Q) : mi_WX QX P X k d (mc + 1) (ms + 6) pc lv st h Q := by
  intro p l e R s m args below meth c H locs cells slots Z D dA b0 xa ls F hS hmc hms hR hl hZ
  have F0' := F
  obtain ⟨hx, hb, hml, hown, hts, hnm, hg, hnw, hf1, hf2, hU⟩ := F
  have hat := xw.at hts hU.2.2.2.1.2
  obtain ⟨⟨h1, h2, h3⟩, h4, h5⟩ := xw
  obtain ⟨u1, u2, sa, u3⟩ := h5 _ _ _ hU.2.2.2.1.2
  obtain ⟨⟨C, T0, N⟩, g1, g2⟩ := Option.map_eq_some_iff.mp h1
  cases g2
  have ea := mi_psR (P := P) hR
  have hr : ((st.map (mi_V (mi_ad P.2.2.2.2.2.1 b0 xa))).map fun v => v.category).sum ≤ 8 := by rw [mi_sum]; exact hst
  refine vx_makeSW (T0 := T0) (ci := ce) hx hb hnm.2.2 hown h2 h3 (hat _ List.mem_cons_self) (hat _ (List.mem_cons_of_mem _ List.mem_cons_self)) u3 (fun w hw => hat w (List.mem_cons_of_mem _ (List.mem_cons_of_mem _ hw))) (fun w hw => (h4 w hw).2) u1 u2 hS (hl.1.trans hml.symm)
    (ht _ _ (mi_at_mem hi0)) (ht _ _ (mi_at_mem hi3)) (ht _ _ (mi_at_mem hi4)) (ht _ _ (mi_at_mem hi6)) hU.2.1 g1 (by omega) (by omega) (by omega) (by omega) fun H1 z1 o1 e1 hS1 => ?_
  have hw := w p l e R s m args below meth c H1 locs (cells + 1) (slots + 6) Z D dA b0 xa ls F0' hS1 (by omega) (by omega) (hR.push (.inr (ce, [])) e1 z1 o1) hl hZ
  rw [List.map_cons, show mi_V (mi_ad P.2.2.2.2.2.1 b0 xa) (.ref h.1) = .ref H.size from congrArg Value.ref ea] at hw
  exact hw
end MIT
/-- what a contract says of a throw -/
def mi_XC (P : mi_P) (D : va_G) (dA : Nat → ClassId) (b0 : Nat) (xa : Nat → Nat) (QX : Nat → Nat → mi_H → Prop) : String → Addr → State → State → Prop := fun E q st t =>
  (∃ (ce a : Nat) (h1 : mi_H), q = mi_ad P.2.2.2.2.2.1 b0 xa a ∧ mi_cX P h1 ce a ∧ QX ce a h1 ∧ (P.1[ce]?).map (·.1) = some E ∧ mi_R P D dA b0 xa t.heap h1) ∧ va_F (fun q => b0 ≤ q) st t
/-- the contract of a method that returns or throws -/
def mi_SX (P : mi_P) (X : mi_X) (k d : Nat) (avs : List Value) (h : mi_H) (mc ms : Nat) (Q : Option Value → mi_H → Prop) (QX : Nat → Nat → mi_H → Prop) : Prop :=
  ∀ (l : Launch), l.stackTraces = false → ∀ (D : va_G) (dA : Nat → ClassId) (b0 : Nat) (xa : Nat → Nat), vx_Met l (P.2.2.2.1 k).1 (.code (P.2.2.2.1 k).1 (P.2.2.2.1 k).2.1 (P.2.2.2.1 k).2.2.1 (P.2.2.2.1 k).2.2.2 :: P.2.1) { frames := d, cells := mc, slots := ms, locals := 32 * d }
    (va_Pc (avs.map (mi_V (mi_ad P.2.2.2.2.2.1 b0 xa))) (fun U => mi_U P X D dA b0 xa U ∧ mi_R P D dA b0 xa U.heap h))
    (fun _ st o t => (∃ (r : Option Value) (h1 : mi_H), o = .returned (r.map (mi_V (mi_ad P.2.2.2.2.2.1 b0 xa))) ∧ Q r h1 ∧ mi_R P D dA b0 xa t.heap h1) ∧ va_F (fun q => b0 ≤ q) st t) (mi_XC P D dA b0 xa QX) mc ms (fun q => b0 ≤ q)
/-- the contract of a method with a table of its own -/
def mi_SH (P : mi_P) (X : mi_X) (k d : Nat) (avs : List Value) (h : mi_H) (mc ms : Nat) (Q : Option Value → mi_H → Prop) : Prop :=
  ∀ (l : Launch), l.stackTraces = false → ∀ (D : va_G) (dA : Nat → ClassId) (b0 : Nat) (xa : Nat → Nat), Met l (P.2.2.2.1 k).1 (.codeWith (P.2.2.2.1 k).1 (P.2.2.2.1 k).2.1 (P.2.2.2.1 k).2.2.1 (P.2.2.2.1 k).2.2.2 (P.2.2.2.2.2.2.2.1 k) :: P.2.1) { frames := d, cells := mc, slots := ms, locals := 32 * d }
    (va_Pc (avs.map (mi_V (mi_ad P.2.2.2.2.2.1 b0 xa))) (fun U => mi_U P X D dA b0 xa U ∧ mi_R P D dA b0 xa U.heap h))
    (fun _ st o t => (∃ (r : Option Value) (h1 : mi_H), o = .returned (r.map (mi_V (mi_ad P.2.2.2.2.2.1 b0 xa))) ∧ Q r h1 ∧ mi_R P D dA b0 xa t.heap h1) ∧ va_F (fun q => b0 ≤ q) st t) mc ms (fun q => b0 ≤ q)
/-- a return out of a walk -/
theorem mi_leave {P : mi_P} {D : va_G} {dA : Nat → ClassId} {b0 : Nat} {xa : Nat → Nat} {k mc ms : Nat} {Q : Option Value → mi_H → Prop} {p : Program} {l : Launch} {e : Env} {R : Room} {s : State} {m : MethodId} {args : Array Value} {below : List Frame} {meth : Method} {c : Code} (hx : p.tables.exec = Jvm.exec) (hb : c.code = (P.2.2.2.1 k).2.1) (hr : meth.sig.returnType = (P.2.2.2.1 k).2.2.2) (hlocks : meth.locks = false)
    {H1 : Heap} {locs1 : List Loc} {cells1 slots1 : Nat} {h1 : mi_H} {r : Option Value} {pc1 : Nat} {ls1 : Array Slot} (hS1 : va_S (fun q => b0 ≤ q) s.heap H1 locs1) (hc1 : cells1 ≤ mc) (hs1 : slots1 ≤ ms) (hR1 : mi_R P D dA b0 xa H1 h1) (hQ : Q r h1) (hrt : mi_rt (P.2.2.2.1 k).2.1 pc1 (P.2.2.2.1 k).2.2.2 r) :
    W p l e R s m args below meth c H1 locs1 cells1 slots1 (MQ below (fun _ st o t => (∃ (r : Option Value) (h1 : mi_H), o = .returned (r.map (mi_V (mi_ad P.2.2.2.2.2.1 b0 xa))) ∧ Q r h1 ∧ mi_R P D dA b0 xa t.heap h1) ∧ va_F (fun q => b0 ≤ q) st t) args s mc ms (fun q => b0 ≤ q)) (F0 m pc1 ls1 (r.toList.map (mi_V (mi_ad P.2.2.2.2.2.1 b0 xa)))) := by
  refine W.widen (k := mc) (n := ms) hc1 hs1 ?_
  have hq : ∀ t : State, t.heap = H1 → s.WarmedH t.vm → ((∃ (r' : Option Value) (h1 : mi_H), Outcome.returned (r.map (mi_V (mi_ad P.2.2.2.2.2.1 b0 xa))) = .returned (r'.map (mi_V (mi_ad P.2.2.2.2.2.1 b0 xa))) ∧ Q r' h1 ∧ mi_R P D dA b0 xa t.heap h1) ∧ va_F (fun q => b0 ≤ q) s t) := fun t ht _ => ⟨⟨r, h1, rfl, hQ, by rw [ht]; exact hR1⟩, hS1.F ht⟩
  cases r with
  | none => exact W.vret hx hb (by rw [hr]; exact hrt.2) hq hS1.2.2 hrt.1
  | some v =>
    cases v with
    | int v =>
      obtain ⟨g1, ty, g2, g3⟩ := hrt
      exact W.zret (ty := ty) hx hb (by rw [hr]; exact g2) g3 hq hS1.2.2 g1
    | long v => exact W.lret hx hb (by rw [hr]; exact hrt.2) hq hS1.2.2 hrt.1
    | float v => exact W.fret hx hb (by rw [hr]; exact hrt.2) hq hS1.2.2 hrt.1
    | double v => exact W.dret hx hb (by rw [hr]; exact hrt.2) hq hS1.2.2 hrt.1
    | null =>
      obtain ⟨g1, rt, g2, g3⟩ := hrt
      exact W.aret (rt := rt) hx hb (by rw [hr]; exact g2) g3 (Or.inl rfl) hq hS1.2.2 g1
    | ref a =>
      obtain ⟨g1, rt, g2, g3⟩ := hrt
      exact W.aret (rt := rt) hx hb (by rw [hr]; exact g2) g3 (Or.inr ⟨_, rfl⟩) hq hS1.2.2 g1
    | retAddr pc => exact absurd hrt id
set_option maxHeartbeats 4000000 in
theorem mi_SX.of {P : mi_P} {X : mi_X} {k d : Nat} {avs : List Value} {h : mi_H} {mc ms : Nat} {Q : Option Value → mi_H → Prop} {QX : Nat → Nat → mi_H → Prop} (hok : mi_ok P) (hht : P.2.2.2.2.2.2.2.1 k = []) (hy : plainName (P.2.2.2.1 k).1.cls = true) (hn : (lg_sl avs).length ≤ (P.2.2.2.1 k).2.2.1)
    (body : mi_WX QX P X k d mc ms 0 (lv_args 0 avs) [] h Q) : mi_SX P X k d avs h mc ms Q QX := by
  intro l hls D dA b0 xa
  refine vx_ofW (cc := (P.2.2.2.1 k).2.1) (maxL := (P.2.2.2.1 k).2.2.1) (ret := (P.2.2.2.1 k).2.2.2) hy rfl ?_
  intro p e s m args below meth c s₁ B hml htab0 hv
  obtain ⟨rfl, hU, hR⟩ := hv
  have hts := atoms_spec (ws := (.code (P.2.2.2.1 k).1 (P.2.2.2.1 k).2.1 (P.2.2.2.1 k).2.2.1 (P.2.2.2.1 k).2.2.2 :: P.2.1)) B.pre
  have hx := B.exec
  have hb := B.bytes
  have hr := B.returns
  have hlocks := B.notSynchronized
  have htab : c.exceptionTable.toList = tableOf (P.2.2.2.2.2.2.2.1 k) := by
    rw [hht]
    exact List.eq_nil_iff_forall_not_mem.mpr fun x hx => htab0 x hx
  have hl := lv_entry (avs.map (mi_V (mi_ad P.2.2.2.2.2.1 b0 xa))) (n := (P.2.2.2.1 k).2.2.1) (by rw [mi_sl]; exact hn)
  rw [mi_args] at hl
  rw [lg_entry_eq]
  generalize (lg_sl (avs.map (mi_V (mi_ad P.2.2.2.2.2.1 b0 xa))) ++ List.replicate ((P.2.2.2.1 k).2.2.1 - (lg_sl (avs.map (mi_V (mi_ad P.2.2.2.2.2.1 b0 xa)))).length) Slot.unset).toArray = ls at hl ⊢
  refine body p l e _ s m _ below meth c s.heap [] 0 0 _ D dA b0 xa ls ⟨hx, hb, hml, findClass_of_methodNamed B.named, fun w hw => hts w (List.mem_cons_of_mem _ hw), ⟨fun q => (name_of_methodNamed B.named B.method).1.trans q, htab, hls⟩, hok.1, hok.2, Nat.le_refl _, Nat.le_refl _, hU⟩ va_S.rf (by rw [Nat.zero_add]; exact Nat.le_refl _) (by rw [Nat.zero_add]; exact Nat.le_refl _) hR hl ⟨?_, ?_⟩
  · intro H1 locs1 cells1 slots1 h1 r pc1 ls1 hS1 hc1 hs1 hR1 hQ hrt
    exact vx_ret (mi_leave hx hb hr hlocks hS1 hc1 hs1 hR1 hQ hrt)
  · intro H1 locs1 cells1 slots1 h1 ce a pc1 ls1 st1 hS1 hc1 hs1 hR1 hcX hqx hout
    obtain ⟨c1, c2, c3⟩ := id hcX
    have he := mi_w_at (dA := dA) (E := P.2.2.2.2.2.1) (b0 := b0) (xa := xa) (h := h1) c1 c2
    rw [c3] at he
    obtain ⟨r, hr9, -⟩ := hR1.2.2 _ _ he
    have hr9 : P.1[ce]? = some r := hr9
    have hE : (P.1[ce]?).map (·.1) = some r.1 := by rw [hr9]; rfl
    obtain ⟨cell, q1, q2, q3⟩ := mi_cell hU hR1 hcX hE
    exact vx_out (E := r.1) (ce := cell) hout hlocks q1 q2 q3 (fun t ht _ => ⟨⟨ce, a, h1, rfl, hcX, hqx, hE, by rw [ht]; exact hR1⟩, hS1.F ht⟩) hS1.2.2 hc1 hs1
set_option maxHeartbeats 4000000 in
theorem mi_SH.of {P : mi_P} {X : mi_X} {k d : Nat} {avs : List Value} {h : mi_H} {mc ms : Nat} {Q : Option Value → mi_H → Prop} (hok : mi_ok P) (hy : plainName (P.2.2.2.1 k).1.cls = true) (hn : (lg_sl avs).length ≤ (P.2.2.2.1 k).2.2.1)
    (body : mi_W P X k d mc ms 0 (lv_args 0 avs) [] h Q) : mi_SH P X k d avs h mc ms Q := by
  intro l hls D dA b0 xa
  refine vx_MetH (cc := (P.2.2.2.1 k).2.1) (maxL := (P.2.2.2.1 k).2.2.1) (ret := (P.2.2.2.1 k).2.2.2) (hh := P.2.2.2.2.2.2.2.1 k) hy rfl ?_
  intro p e s m args below meth c s₁ B hml hv
  obtain ⟨rfl, hU, hR⟩ := hv
  have hts := atoms_spec (ws := (.codeWith (P.2.2.2.1 k).1 (P.2.2.2.1 k).2.1 (P.2.2.2.1 k).2.2.1 (P.2.2.2.1 k).2.2.2 (P.2.2.2.2.2.2.2.1 k) :: P.2.1)) B.pre
  have hx := B.exec
  have hb := B.bytes
  have hr := B.returns
  have hlocks := B.notSynchronized
  have htab : c.exceptionTable.toList = tableOf (P.2.2.2.2.2.2.2.1 k) := vx_table B (hts _ List.mem_cons_self)
  have hl := lv_entry (avs.map (mi_V (mi_ad P.2.2.2.2.2.1 b0 xa))) (n := (P.2.2.2.1 k).2.2.1) (by rw [mi_sl]; exact hn)
  rw [mi_args] at hl
  rw [lg_entry_eq]
  generalize (lg_sl (avs.map (mi_V (mi_ad P.2.2.2.2.2.1 b0 xa))) ++ List.replicate ((P.2.2.2.1 k).2.2.1 - (lg_sl (avs.map (mi_V (mi_ad P.2.2.2.2.2.1 b0 xa)))).length) Slot.unset).toArray = ls at hl ⊢
  refine body p l e _ s m _ below meth c s.heap [] 0 0 _ D dA b0 xa ls ⟨hx, hb, hml, findClass_of_methodNamed B.named, fun w hw => hts w (List.mem_cons_of_mem _ hw), ⟨fun q => (name_of_methodNamed B.named B.method).1.trans q, htab, hls⟩, hok.1, hok.2, Nat.le_refl _, Nat.le_refl _, hU⟩ va_S.rf (by rw [Nat.zero_add]; exact Nat.le_refl _) (by rw [Nat.zero_add]; exact Nat.le_refl _) hR hl ⟨?_, fun _ _ _ _ _ _ _ _ _ _ _ _ _ _ _ hqx _ => hqx.elim⟩
  intro H1 locs1 cells1 slots1 h1 r pc1 ls1 hS1 hc1 hs1 hR1 hQ hrt
  exact mi_leave hx hb hr hlocks hS1 hc1 hs1 hR1 hQ hrt
theorem mi_backX {P : mi_P} {D : va_G} {dA : Nat → ClassId} {b0 : Nat} {xa : Nat → Nat} {p : Program} {l : Launch} {e : Env} {R : Room} {s : State} {m : MethodId} {args : Array Value} {below : List Frame} {meth : Method} {c : Code} {H : Heap} {locs : List Loc} {cells slots mc ms pc : Nat} {Z : State → Prop} {ls : Array Slot} {st0 rest : List Value} {Q : Option Value → mi_H → Prop} {QX : Nat → Nat → mi_H → Prop} (hb0 : b0 ≤ s.heap.size)
    (hr : vx_Run p l e R s m args below meth c H locs cells slots mc ms (F0 m pc ls st0) rest (fun st o t => (∃ (r : Option Value) (h1 : mi_H), o = .returned (r.map (mi_V (mi_ad P.2.2.2.2.2.1 b0 xa))) ∧ Q r h1 ∧ mi_R P D dA b0 xa t.heap h1) ∧ va_F (fun q => b0 ≤ q) st t) (mi_XC P D dA b0 xa QX) (fun q => b0 ≤ q)) (hS : va_S (fun q => b0 ≤ q) s.heap H locs)
    (kk : ∀ (r : Option Value) (h1 : mi_H) (H1 : Heap) (locs1 : List Loc), Q r h1 → mi_R P D dA b0 xa H1 h1 → va_S (fun q => b0 ≤ q) s.heap H1 locs1 → W p l e R s m args below meth c H1 locs1 (cells + mc) (slots + ms) Z (F0 m (pc + 3) ls ((r.map (mi_V (mi_ad P.2.2.2.2.2.1 b0 xa))).toList ++ rest)))
    (kx : ∀ (ce a : Nat) (h1 : mi_H) (H1 : Heap) (locs1 : List Loc), mi_cX P h1 ce a → QX ce a h1 → mi_R P D dA b0 xa H1 h1 → va_S (fun q => b0 ≤ q) s.heap H1 locs1 → mi_T p l e R s m args below meth c H1 locs1 (cells + mc) (slots + ms) Z (F0 m pc ls rest) (mi_ad P.2.2.2.2.2.1 b0 xa a)) : W p l e R s m args below meth c H locs cells slots Z (F0 m pc ls st0) := by
  intro T hT Xs
  rcases hr T hT Xs with ⟨v, st₀, t, T', L, h0, X', hL, e1, e2, ⟨⟨r, h1, hv, hq, hR1⟩, hz, hk⟩, st⟩ | ⟨q, st₀, t, T', L, E, ce, h0, X', hL, e1, e2, ⟨⟨ce9, a, h1, rfl, hcX, hqx, -, hR1⟩, hz, hk⟩, hce, hcv, hcl, st⟩
  · cases hv
    rw [h0] at hz hk
    obtain ⟨t2, a1, b1⟩ := kk r h1 T'.heap (locs ++ L) hq (by rw [e1]; exact hR1)
      ⟨Nat.le_trans hS.1 (by rw [e1]; exact hz), fun q h1 h2 => by rw [e1, hk q (Nat.lt_of_lt_of_le h1 hS.1) h2]; exact hS.2.1 q h1 h2, fun q hq => by
        rcases List.mem_append.mp hq with h | h
        · exact hS.2.2 q h
        · exact hL q h⟩ T' rfl X'
    exact ⟨t2, st t2 a1, b1⟩
  · rw [h0] at hz hk
    obtain ⟨t2, a1, b1⟩ := kx ce9 a h1 T'.heap (locs ++ L) hcX hqx (by rw [e1]; exact hR1)
      ⟨Nat.le_trans hS.1 (by rw [e1]; exact hz), fun q h1 h2 => by rw [e1, hk q (Nat.lt_of_lt_of_le h1 hS.1) h2]; exact hS.2.1 q h1 h2, fun q hq => by
        rcases List.mem_append.mp hq with h | h
        · exact hS.2.2 q h
        · exact hL q h⟩ T' rfl X'
    exact ⟨t2, st.trans a1, b1⟩
section MICX
variable {QX : Nat → Nat → mi_H → Prop} {P : mi_P} {X : mi_X} {k d mc ms pc : Nat} {lv : mi_L} {st : List Value} {h : mi_H} {Q : Option Value → mi_H → Prop} {tb : List (Nat × Instr)}
set_option maxHeartbeats 4000000 in
theorem mi_callVX (ht : mi_tb (P.2.2.2.1 k).2.1 tb) {index k' d' mc' ms' b ci n : Nat} {As : List Value} {fs : List Value} {Q' : Option Value → mi_H → Prop} {QX' : Nat → Nat → mi_H → Prop} (hi : mi_at tb pc = some (.invokevirtual index)) (cw : mi_cV P (P.2.2.2.1 k).1.cls index k' n) (hn : As.length = n) (hd : d' + 1 ≤ d) (hE : P.2.2.2.2.2.1 ≤ b) (hb' : b < h.1) (hc : h.2 b = .inr (ci, fs)) (hci : (P.1[ci]?).map (·.1) = some (P.2.2.2.1 k').1.cls) (hst : (st.map fun v => v.category).sum ≤ 8)
    (hS' : mi_SX P X k' d' (.ref b :: As) h mc' ms' Q' QX') (w : ∀ (r : Option Value) (h1 : mi_H), Q' r h1 → mi_WX QX P X k d mc ms (pc + 3) lv (r.toList ++ st) h1 Q) (wx : ∀ (ce a : Nat) (h1 : mi_H), mi_cX P h1 ce a → QX' ce a h1 → mi_TX QX P X k d mc ms pc lv a h1 Q) : mi_WX QX P X k d (mc + mc') (ms + ms') pc lv (As.reverse ++ .ref b :: st) h Q := by
  intro p l e R s m args below meth c H locs cells slots Z D dA b0 xa ls F hS hmc hms hR hl hZ
  have F0' := F
  obtain ⟨hx, hb, hml, hown, hts, hnm, hg, hnw, hf1, hf2, hU⟩ := F
  obtain ⟨⟨⟨w1, w2, w3⟩, w4⟩, w5, w6, w7⟩ := cw
  have he := mi_w_at (dA := dA) (E := P.2.2.2.2.2.1) (b0 := b0) (xa := xa) (h := h) hE hb'
  rw [hc] at he
  obtain ⟨q, hq1, hq2⟩ := Option.map_eq_some_iff.mp hci
  have hrec := va_recv hU.2.1 hR.2.2 hq1 he
  rw [hq2] at hrec
  have hws : ∀ w ∈ wsV (P.2.2.2.1 k).1.cls index (P.2.2.2.1 k').1.cls (P.2.2.2.1 k').1 (.code (P.2.2.2.1 k').1 (P.2.2.2.1 k').2.1 (P.2.2.2.1 k').2.2.1 (P.2.2.2.1 k').2.2.2 :: P.2.1), w ∈ P.2.1 := by
    intro w hw
    rcases List.mem_append.mp hw with h1 | h1
    · simp only [List.mem_cons, List.not_mem_nil, or_false] at h1
      rcases h1 with rfl | rfl | rfl | rfl <;> assumption
    · rcases List.mem_cons.mp h1 with rfl | h1
      · exact w1
      · exact h1
  have e0 : (As.reverse ++ .ref b :: st).map (mi_V (mi_ad P.2.2.2.2.2.1 b0 xa)) = (As.map (mi_V (mi_ad P.2.2.2.2.2.1 b0 xa))).reverse ++ .ref (mi_ad P.2.2.2.2.2.1 b0 xa b) :: st.map (mi_V (mi_ad P.2.2.2.2.2.1 b0 xa)) := by
    rw [List.map_append, List.map_reverse]; rfl
  rw [e0]
  refine mi_backX hU.1 (vx_runV ⟨hx, hb, hml, hown, hts⟩ (hS' l F0'.2.2.2.2.2.1.2.2 D dA b0 xa) (cwV n hts (mi_good hg hws) rfl rfl rfl ⟨rfl, w4⟩ ⟨by show d' + 1 ≤ R.frames; omega, by show 8 + (_ + 11) + 32 * d' ≤ R.locals; omega⟩) ⟨mi_blind hnw, hrec, fun U hU' hW => ⟨rfl, hU.go hS hnw hU' hW, by rw [hU']; exact hR⟩⟩ rfl (by rw [List.length_map]; exact hn) hl.1 rfl (lv_room (by rw [mi_sum]; exact hst)) (ht pc _ (mi_at_mem hi)) ⟨by omega, by omega⟩) hS (fun r h1 H1 locs1 hQ hR1 hS1 => ?_) (fun ce a h1 H1 locs1 hcX hqx hR1 hS1 => wx ce a h1 hcX hqx p l e R s m args below meth c H1 locs1 (cells + mc') (slots + ms') Z D dA b0 xa ls _ F0' hS1 (by omega) (by omega) hR1 hl hZ)
  have hw := w r h1 hQ p l e R s m args below meth c H1 locs1 (cells + mc') (slots + ms') Z D dA b0 xa ls F0' hS1 (by omega) (by omega) hR1 hl hZ
  rw [List.map_append] at hw
  cases r <;> exact hw
set_option maxHeartbeats 4000000 in
theorem mi_callSX (ht : mi_tb (P.2.2.2.1 k).2.1 tb) {index k' d' mc' ms' n : Nat} {As : List Value} {Q' : Option Value → mi_H → Prop} {QX' : Nat → Nat → mi_H → Prop} (hi : mi_at tb pc = some (.invokestatic index)) (cw : mi_cS P (P.2.2.2.1 k).1.cls index k' n) (hn : As.length = n) (hd : d' + 1 ≤ d) (hst : (st.map fun v => v.category).sum ≤ 8)
    (hS' : mi_SX P X k' d' As h mc' ms' Q' QX') (w : ∀ (r : Option Value) (h1 : mi_H), Q' r h1 → mi_WX QX P X k d mc ms (pc + 3) lv (r.toList ++ st) h1 Q) (wx : ∀ (ce a : Nat) (h1 : mi_H), mi_cX P h1 ce a → QX' ce a h1 → mi_TX QX P X k d mc ms pc lv a h1 Q) : mi_WX QX P X k d (mc + mc') (ms + ms') pc lv (As.reverse ++ st) h Q := by
  intro p l e R s m args below meth c H locs cells slots Z D dA b0 xa ls F hS hmc hms hR hl hZ
  have F0' := F
  obtain ⟨hx, hb, hml, hown, hts, hnm, hg, hnw, hf1, hf2, hU⟩ := F
  obtain ⟨⟨⟨w1, w2, w3⟩, w4⟩, w5, w6⟩ := cw
  have hws : ∀ w ∈ va_wsS (P.2.2.2.1 k).1.cls index (P.2.2.2.1 k').1 (.code (P.2.2.2.1 k').1 (P.2.2.2.1 k').2.1 (P.2.2.2.1 k').2.2.1 (P.2.2.2.1 k').2.2.2 :: P.2.1), w ∈ P.2.1 := by
    intro w hw
    rcases List.mem_append.mp hw with h1 | h1
    · simp only [List.mem_cons, List.not_mem_nil, or_false] at h1
      rcases h1 with rfl | rfl | rfl <;> assumption
    · rcases List.mem_cons.mp h1 with rfl | h1
      · exact w1
      · exact h1
  have e0 : (As.reverse ++ st).map (mi_V (mi_ad P.2.2.2.2.2.1 b0 xa)) = (As.map (mi_V (mi_ad P.2.2.2.2.2.1 b0 xa))).reverse ++ st.map (mi_V (mi_ad P.2.2.2.2.2.1 b0 xa)) := by
    rw [List.map_append, List.map_reverse]
  rw [e0]
  refine mi_backX hU.1 (vx_runS ⟨hx, hb, hml, hown, hts⟩ (hS' l F0'.2.2.2.2.2.1.2.2 D dA b0 xa) (va_cwS n hts (mi_good hg hws) rfl rfl rfl w4 ⟨by show d' + 1 ≤ R.frames; omega, by show 8 + (_ + 11) + 32 * d' ≤ R.locals; omega⟩) ⟨mi_blind hnw, fun U hU' hW => ⟨rfl, hU.go hS hnw hU' hW, by rw [hU']; exact hR⟩⟩ rfl (by rw [List.length_map]; exact hn) hl.1 rfl (lv_room (by rw [mi_sum]; exact hst)) (ht pc _ (mi_at_mem hi)) ⟨by omega, by omega⟩) hS (fun r h1 H1 locs1 hQ hR1 hS1 => ?_) (fun ce a h1 H1 locs1 hcX hqx hR1 hS1 => wx ce a h1 hcX hqx p l e R s m args below meth c H1 locs1 (cells + mc') (slots + ms') Z D dA b0 xa ls _ F0' hS1 (by omega) (by omega) hR1 hl hZ)
  have hw := w r h1 hQ p l e R s m args below meth c H1 locs1 (cells + mc') (slots + ms') Z D dA b0 xa ls F0' hS1 (by omega) (by omega) hR1 hl hZ
  rw [List.map_append] at hw
  cases r <;> exact hw
/-- a field that the pool names by a class below the one that has it -/
def mi_fs (P : mi_P) (own : String) (index ci j : Nat) : Prop := ∃ (C R2 : String) (T : u_T) (N : Nat) (ty0 : Nat → FieldType), mi_cf P ci C T N ty0 ∧ j < N ∧ Cond.fieldLink own index R2 (T j).2.1 (T j).2.2.1 ∈ P.2.1 ∧ Cond.sameField R2 (T j).1 (T j).2.1 (T j).2.2.1 ∈ P.2.1
set_option maxHeartbeats 4000000 in
theorem mi_getS (ht : mi_tb (P.2.2.2.1 k).2.1 tb) {index ci j a : Nat} {fs : List Value} {v : Value} (hi : mi_at tb pc = some (.getfield index)) (fd : mi_fs P (P.2.2.2.1 k).1.cls index ci j) (hE : P.2.2.2.2.2.1 ≤ a) (ha : a < h.1) (hc : h.2 a = .inr (ci, fs)) (hv : fs[j]? = some v)
    (w : mi_WX QX P X k d mc ms (pc + 3) lv (v :: st) h Q) : mi_WX QX P X k d mc ms pc lv (.ref a :: st) h Q := by
  intro p l e R s m args below meth c H locs cells slots Z D dA b0 xa ls F hS hmc hms hR hl hZ
  obtain ⟨C, R2, T, N, ty0, ⟨c1, c2, c3, c4⟩, f1, f4, f5⟩ := fd
  have hw := w p l e R s m args below meth c H locs cells slots Z D dA b0 xa ls F hS hmc hms hR hl hZ
  obtain ⟨hx, hb, hml, hown, hts, hnm, -, -, -, -, hz0, hK, -, -, hN⟩ := F
  have hd := ht pc _ (mi_at_mem hi)
  have he := mi_w_at (dA := dA) (E := P.2.2.2.2.2.1) (b0 := b0) (xa := xa) (h := h) hE ha
  rw [hc] at he
  have hv' : (fs.map (mi_V (mi_ad P.2.2.2.2.2.1 b0 xa)))[j]? = some (mi_V (mi_ad P.2.2.2.2.2.1 b0 xa) v) := by rw [List.getElem?_map, hv]; rfl
  exact va_get hx hb hts c2 hown hK hR.2.2 (a - P.2.2.2.2.2.1) he c1 j f1 (hts _ f4) (fun x9 h9 => u_same (hts _ f5) x9 h9) hv' hd hw
set_option maxHeartbeats 4000000 in
/-- a new row of rows -/
theorem mi_newA (ht : mi_tb (P.2.2.2.1 k).2.1 tb) {index t N : Nat} {n : Int32} {ty : FieldType} (hi : mi_at tb pc = some (.anewarray index)) (htt : P.2.2.2.2.1[t]? = some (.array ty)) (hcl : Cond.classLink (P.2.2.2.1 k).1.cls index (FieldType.array ty).toString ∈ P.2.1) (hov : Cond.arrayOver (.array ty) ∈ P.2.2.1) (hn : ¬ n < 0) (hN : n.toNatClampNeg = N) (hby : N * 4 ≤ 536870912)
    (w : mi_WX QX P X k d mc ms (pc + 3) lv (.ref h.1 :: st) (h.1 + 1, va_up h.2 h.1 (.inl (t, N, .inr (.inr (.inr (.inr (fun _ => none))))))) Q) : mi_WX QX P X k d (mc + 1) (ms + N) pc lv (.int n :: st) h Q := by
  intro p l e R s m args below meth c H locs cells slots Z D dA b0 xa ls F hS hmc hms hR hl hZ
  have F0' := F
  obtain ⟨hx, hb, hml, hown, hts, hnm, -, -, -, -, hz0, hK, -, -, hNw⟩ := F
  have ea := mi_psR (P := P) hR
  subst hN
  refine W.anewA hx hb hown (hts _ hcl) (show (Cond.arrayOver (.array ty)).before args s = true from hNw _ hov) rfl (ht pc _ (mi_at_mem hi)) rfl hn hby (by omega) (by omega) fun cA kA comp f1 f2 f3 f4 => ?_
  have hcA : cA = dA t := Option.some.inj (f1.symm.trans (hK.2 t _ (mi_tys_at htt)).2)
  subst hcA
  generalize hH1 : H.push ({ cls := dA t, slots := Array.replicate n.toNatClampNeg .null, vm := .none } : Cell) = H1
  have z1 : H1.size = H.size + 1 := by rw [← hH1, Array.size_push]
  have e1 : H1[H.size]? = some (arrV (dA t) n.toNatClampNeg (fun _ => .null)) := by rw [← hH1, Array.getElem?_push_size, ← arrV_new]
  have o1 : ∀ q : Nat, q < H.size → H1[q]? = H[q]? := fun q hq => by rw [← hH1, Array.getElem?_push, if_neg (Nat.ne_of_lt hq)]
  have hw := w p l e R s m args below meth c H1 locs (cells + 1) (slots + n.toNatClampNeg) Z D dA b0 xa ls F0' (mi_S_push hS z1 o1) (by omega) (by omega) (hR.push (.inl (t, n.toNatClampNeg, .inr (.inr (.inr (.inr (fun _ => none)))))) e1 z1 o1) hl hZ
  rw [List.map_cons, show mi_V (mi_ad P.2.2.2.2.2.1 b0 xa) (.ref h.1) = .ref H.size from congrArg Value.ref ea] at hw
  exact hw
/-- the words of a call through an interface: x is what the pool names, k' the method that is meant -/
def mi_cF (P : mi_P) (own : String) (idx k' n : Nat) (x : MethodName) : Prop := (Cond.code (P.2.2.2.1 k').1 (P.2.2.2.1 k').2.1 (P.2.2.2.1 k').2.2.1 (P.2.2.2.1 k').2.2.2 ∈ P.2.1 ∧ (P.2.2.2.1 k').2.2.1 ≤ 13) ∧ (∀ w ∈ ([.methodLink own idx x, .selects (P.2.2.2.1 k').1.cls x (P.2.2.2.1 k').1, .instanceMethod (P.2.2.2.1 k').1, .initialized (P.2.2.2.1 k').1.cls] : List Cond), w ∈ P.2.1) ∧
  (x.cls ≠ "java/lang/invoke/MethodHandle" ∧ x.cls ≠ "java/lang/invoke/VarHandle" ∧ (parseMethodDescriptor x.desc).map (fun d => d.parameters.length) = some n) ∧ ∀ (b0 : Nat) (U : State) (H : Heap), P.2.2.2.2.2.2.2.2 b0 U H → va_Fw (P.2.2.2.1 k').1.cls x (P.2.2.2.1 k').1 U
set_option maxHeartbeats 4000000 in
theorem mi_callF (ht : mi_tb (P.2.2.2.1 k).2.1 tb) {index count k' d' mc' ms' b ci n : Nat} {x : MethodName} {As : List Value} {fs : List Value} {Q' : Option Value → mi_H → Prop} (hi : mi_at tb pc = some (.invokeinterface index count)) (hdc : decode (P.2.2.2.1 k).2.1 pc = .ok (.invokeinterface index count, 5)) (cw : mi_cF P (P.2.2.2.1 k).1.cls index k' n x) (hn : As.length = n) (hd : d' + 1 ≤ d) (hE : P.2.2.2.2.2.1 ≤ b) (hb' : b < h.1) (hc : h.2 b = .inr (ci, fs)) (hci : (P.1[ci]?).map (·.1) = some (P.2.2.2.1 k').1.cls) (hst : (st.map fun v => v.category).sum ≤ 8)
    (hS' : mi_S P X k' d' (.ref b :: As) h mc' ms' Q') (w : ∀ (r : Option Value) (h1 : mi_H), Q' r h1 → mi_WX QX P X k d mc ms (pc + 5) lv (r.toList ++ st) h1 Q) : mi_WX QX P X k d (mc + mc') (ms + ms') pc lv (As.reverse ++ .ref b :: st) h Q := by
  intro p l e R s m args below meth c H locs cells slots Z D dA b0 xa ls F hS hmc hms hR hl hZ
  have F0' := F
  obtain ⟨hx, hb, hml, hown, hts, hnm, hg, hnw, hf1, hf2, hU⟩ := F
  obtain ⟨⟨w1, w3⟩, w2, w4, w5⟩ := cw
  have he := mi_w_at (dA := dA) (E := P.2.2.2.2.2.1) (b0 := b0) (xa := xa) (h := h) hE hb'
  rw [hc] at he
  obtain ⟨q, hq1, hq2⟩ := Option.map_eq_some_iff.mp hci
  have hrec := va_recv hU.2.1 hR.2.2 hq1 he
  rw [hq2] at hrec
  have hat : ClassAt s (P.2.2.2.1 k').1.cls (D.1 ci) := by rw [← hq2]; exact (hU.2.1.1 ci q hq1).2
  have hws : ∀ w ∈ va_wsF (P.2.2.2.1 k).1.cls index (P.2.2.2.1 k').1.cls x (P.2.2.2.1 k').1 (.code (P.2.2.2.1 k').1 (P.2.2.2.1 k').2.1 (P.2.2.2.1 k').2.2.1 (P.2.2.2.1 k').2.2.2 :: P.2.1), w ∈ P.2.1 := by
    intro w hw
    rcases List.mem_append.mp hw with h1 | h1
    · exact w2 w h1
    · rcases List.mem_cons.mp h1 with rfl | h1
      · exact w1
      · exact h1
  have e0 : (As.reverse ++ .ref b :: st).map (mi_V (mi_ad P.2.2.2.2.2.1 b0 xa)) = (As.map (mi_V (mi_ad P.2.2.2.2.2.1 b0 xa))).reverse ++ .ref (mi_ad P.2.2.2.2.2.1 b0 xa b) :: st.map (mi_V (mi_ad P.2.2.2.2.2.1 b0 xa)) := by
    rw [List.map_append, List.map_reverse]; rfl
  rw [e0]
  have hr := va_runF (e := e) (meth := meth) (below := below) (H := H) (locs := locs) (cells := cells) (slots := slots) (mc := mc') (ms := ms') (count := count) (rest := st.map (mi_V (mi_ad P.2.2.2.2.2.1 b0 xa))) (g := F0 m pc ls ((As.map (mi_V (mi_ad P.2.2.2.2.2.1 b0 xa))).reverse ++ .ref (mi_ad P.2.2.2.2.2.1 b0 xa b) :: st.map (mi_V (mi_ad P.2.2.2.2.2.1 b0 xa)))) hat ⟨hx, hb, hml, hown, hts⟩ (hS' l F0'.2.2.2.2.2.1.2.2 D dA b0 xa) (va_cwF n hts (mi_good hg hws) rfl rfl rfl (w5 _ _ _ hU.2.2.2.1.2) w4 ⟨by show d' + 1 ≤ R.frames; omega, by show 8 + (_ + 11) + 32 * d' ≤ R.locals; omega⟩) ⟨mi_blind hnw, hrec, fun U hU' hW => ⟨rfl, hU.go hS hnw hU' hW, by rw [hU']; exact hR⟩⟩ rfl (by rw [List.length_map]; exact hn) hl.1 rfl (lv_room (by rw [mi_sum]; exact hst)) (by show decode (P.2.2.2.1 k).2.1 pc = _; exact hdc) ⟨by omega, by omega⟩
  intro T hT Xs
  obtain ⟨v, st₀, t, T', L, h0, X', hL, e1, e2, ⟨⟨r, h1, hv, hq, hR1⟩, hz, hk⟩, st9⟩ := hr T hT Xs
  cases hv
  rw [h0] at hz hk
  have hS1 : va_S (fun q => b0 ≤ q) s.heap T'.heap (locs ++ L) := ⟨Nat.le_trans hS.1 (by rw [e1]; exact hz), fun q h1 h2 => by rw [e1, hk q (Nat.lt_of_lt_of_le h1 hS.1) h2]; exact hS.2.1 q h1 h2, fun q hq => by
      rcases List.mem_append.mp hq with h | h
      · exact hS.2.2 q h
      · exact hL q h⟩
  have hw := w r h1 hq p l e R s m args below meth c T'.heap (locs ++ L) (cells + mc') (slots + ms') Z D dA b0 xa ls F0' hS1 (by omega) (by omega) (by rw [e1]; exact hR1) hl hZ
  rw [List.map_append] at hw
  obtain ⟨t2, a1, b1⟩ := hw T' rfl X'
  exact ⟨t2, st9 t2 (by cases r <;> exact a1), b1⟩
/-- the words of a call of a method with a table of its own -/
def mi_cH (P : mi_P) (own : String) (idx k' n : Nat) : Prop := (Cond.codeWith (P.2.2.2.1 k').1 (P.2.2.2.1 k').2.1 (P.2.2.2.1 k').2.2.1 (P.2.2.2.1 k').2.2.2 (P.2.2.2.2.2.2.2.1 k') ∈ P.2.1 ∧ Cond.initialized (P.2.2.2.1 k').1.cls ∈ P.2.1 ∧ (P.2.2.2.1 k').2.2.1 ≤ 13) ∧
  ((P.2.2.2.1 k').1.cls ≠ "java/lang/invoke/MethodHandle" ∧ (P.2.2.2.1 k').1.cls ≠ "java/lang/invoke/VarHandle" ∧ (parseMethodDescriptor (P.2.2.2.1 k').1.desc).map (fun d => d.parameters.length) = some n) ∧ Cond.methodLink own idx (P.2.2.2.1 k').1 ∈ P.2.1 ∧ Cond.static (P.2.2.2.1 k').1 ∈ P.2.1
set_option maxHeartbeats 4000000 in
theorem mi_callSH (ht : mi_tb (P.2.2.2.1 k).2.1 tb) {index k' d' mc' ms' n : Nat} {As : List Value} {Q' : Option Value → mi_H → Prop} (hi : mi_at tb pc = some (.invokestatic index)) (cw : mi_cH P (P.2.2.2.1 k).1.cls index k' n) (hn : As.length = n) (hd : d' + 1 ≤ d) (hst : (st.map fun v => v.category).sum ≤ 8)
    (hS' : mi_SH P X k' d' As h mc' ms' Q') (w : ∀ (r : Option Value) (h1 : mi_H), Q' r h1 → mi_WX QX P X k d mc ms (pc + 3) lv (r.toList ++ st) h1 Q) : mi_WX QX P X k d (mc + mc') (ms + ms') pc lv (As.reverse ++ st) h Q := by
  intro p l e R s m args below meth c H locs cells slots Z D dA b0 xa ls F hS hmc hms hR hl hZ
  have F0' := F
  obtain ⟨hx, hb, hml, hown, hts, hnm, hg, hnw, hf1, hf2, hU⟩ := F
  obtain ⟨⟨w1, w2, w3⟩, w4, w5, w6⟩ := cw
  have hws : ∀ w ∈ va_wsS (P.2.2.2.1 k).1.cls index (P.2.2.2.1 k').1 (.codeWith (P.2.2.2.1 k').1 (P.2.2.2.1 k').2.1 (P.2.2.2.1 k').2.2.1 (P.2.2.2.1 k').2.2.2 (P.2.2.2.2.2.2.2.1 k') :: P.2.1), w ∈ P.2.1 := by
    intro w hw
    rcases List.mem_append.mp hw with h1 | h1
    · simp only [List.mem_cons, List.not_mem_nil, or_false] at h1
      rcases h1 with rfl | rfl | rfl <;> assumption
    · rcases List.mem_cons.mp h1 with rfl | h1
      · exact w1
      · exact h1
  have e0 : (As.reverse ++ st).map (mi_V (mi_ad P.2.2.2.2.2.1 b0 xa)) = (As.map (mi_V (mi_ad P.2.2.2.2.2.1 b0 xa))).reverse ++ st.map (mi_V (mi_ad P.2.2.2.2.2.1 b0 xa)) := by
    rw [List.map_append, List.map_reverse]
  rw [e0]
  refine mi_back hU.1 (vx_runSW ⟨hx, hb, hml, hown, hts⟩ (hS' l F0'.2.2.2.2.2.1.2.2 D dA b0 xa) (vx_cwSW n hts (mi_good hg hws) rfl rfl rfl w4 ⟨by show d' + 1 ≤ R.frames; omega, by show 8 + (_ + 11) + 32 * d' ≤ R.locals; omega⟩) ⟨mi_blind hnw, fun U hU' hW => ⟨rfl, hU.go hS hnw hU' hW, by rw [hU']; exact hR⟩⟩ rfl (by rw [List.length_map]; exact hn) hl.1 rfl (lv_room (by rw [mi_sum]; exact hst)) (ht pc _ (mi_at_mem hi)) ⟨by omega, by omega⟩) hS (fun r h1 H1 locs1 hQ hR1 hS1 => ?_)
  have hw := w r h1 hQ p l e R s m args below meth c H1 locs1 (cells + mc') (slots + ms') Z D dA b0 xa ls F0' hS1 (by omega) (by omega) hR1 hl hZ
  rw [List.map_append] at hw
  cases r <;> exact hw
end MICX
