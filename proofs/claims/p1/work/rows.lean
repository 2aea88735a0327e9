section
/-! Exceptions, pasted out of the kit and turned: what is said of a throw names the thing that is thrown. -/
section VXA
def vx_T (XC : String → Addr → State → State → Prop) (st : State) (q : Addr) (t : State) (mc ms : Nat) (free : Addr → Prop) : Prop :=
  ∃ (E : String) (ce : Cell) (L : List Loc), XC E q st t ∧ t.heap[q]? = some ce ∧ ce.vm = .none ∧ st.vm.findClass E = some ce.cls ∧ st.WarmedH t.vm ∧ st.sameButNew ({ t with vm := st.vm } : State) L mc ms ∧ ∀ z ∈ L, free z.base
def vx_Q (Qc : Array Value → State → Outcome → State → Prop) (XC : String → Addr → State → State → Prop) (mc ms : Nat) (free : Addr → Prop) : Array Value → State → Outcome → State → Prop := fun a st o t =>
  (Qc a st o t ∧ ∃ L, FrameEnd st o t L mc ms ∧ ∀ q ∈ L, free q.base) ∨ ∃ q, o = .threw q ∧ vx_T XC st q t mc ms free
/-- a callee that returns or throws -/
def vx_Met (l : Launch) (y : MethodName) (ws : List Cond) (rm : Room) (Pc : Array Value → State → Prop) (Qc : Array Value → State → Outcome → State → Prop) (XC : String → Addr → State → State → Prop) (mc ms : Nat) (free : Addr → Prop) : Prop :=
  MetFree l y (headSpec ws rm) Pc (fun _ _ _ _ _ => True) (vx_Q Qc XC mc ms free)
def vx_Post (XC : String → Addr → State → State → Prop) (mc ms : Nat) (free : Addr → Prop) : Pt → Array Value → Addr → Pt → Prop := fun A a q B =>
  ∃ (g : JFrame) (mk : MethodId) (t : State) (L : List Loc) (E : String) (ce : Cell), B.U.heap = t.heap ∧ B.U.vm = t.vm ∧ XC E q (A.U.calling g mk a) t ∧ t.heap[q]? = some ce ∧ ce.vm = .none ∧ A.U.vm.findClass E = some ce.cls ∧ B.locs = A.locs ++ L ∧ (∀ z ∈ L, free z.base) ∧ B.cells = A.cells + mc ∧ B.slots = A.slots + ms
def vx_Back (l : Launch) (R : Room) (p : Program) (e : Env) (below : List Frame) (s : State) (sargs : Array Value) (y : MethodName) (len W9 : Nat)
    (Pre : Pt → Array Value → Prop) (Post : Pt → Array Value → Option Value → Pt → Prop) (PostX : Pt → Array Value → Addr → Pt → Prop) : Prop :=
  ∀ (m : MethodId) (meth : Method) (c : Code) (A : Pt) (g : JFrame) (ig : Instr) (mk : MethodId) (a : Array Value),
    Stand p l e R s m sargs below meth c A.U A.locs A.cells A.slots → g.method = m → g.locals.size = c.maxLocals → decode c.code g.pc = .ok (ig, len) →
    2 * g.monitorRoom + (g.stack.map fun v => v.category).sum ≤ W9 → A.U.methodNamed? y = some mk → Pre A a →
    (∃ (v : Option Value) (B : Pt), Stand p l e R s m sargs below meth c B.U B.locs B.cells B.slots ∧ Post A a v B ∧
      Steps p.tables e below (doInvoke e (A.U.setTop g) [] mk a).1 (B.U.setTop { g with pc := g.pc + len, stack := v.toList ++ g.stack })) ∨
    (∃ (q : Addr) (B : Pt), Stand p l e R s m sargs below meth c B.U B.locs B.cells B.slots ∧ PostX A a q B ∧
      Steps p.tables e below (doInvoke e (A.U.setTop g) [] mk a).1 ((B.U.setTop g).pushFrame (.throwing q)))
section Payer
variable {l : Launch} {R : Room} {p : Program} {e : Env} {below : List Frame} {s : State} {sargs : Array Value} {y : MethodName} {len W9 : Nat}
theorem vx_back {ws : List Cond} {rm : Room} {Pc : Array Value → State → Prop} {Qc : Array Value → State → Outcome → State → Prop} {XC : String → Addr → State → State → Prop} {mc ms : Nat} {free : Addr → Prop} {bytes : ByteArray} {maxL : Nat} {ret : Option FieldType}
    (hM : vx_Met l y ws rm Pc Qc XC mc ms free) (hblind : FrameBlind Pc) (hrc : rm.cells = mc) (hrs : rm.slots = ms)
    (hframes : rm.frames + 1 ≤ R.frames) (hlocals : W9 + (maxL + 11) + rm.locals ≤ R.locals)
    (hws : ∀ w ∈ ws, ∀ a' U, s.WarmedH U.vm → w.before a' U = true) (hcode : Cond.code y bytes maxL ret ∈ ws) (hinit : ∀ a' U, s.WarmedH U.vm → (Cond.initialized y.cls).before a' U = true) :
    vx_Back l R p e below s sargs y len W9 (PreOf R mc ms Pc) (PostOf Qc mc ms free) (vx_Post XC mc ms free) := by
  intro m meth c A g ig mk a X hg hsize hdg hW hn hp
  have h1 : (headSpec ws rm).pre.before a A.U = true := atoms_intro fun w hw => hws w hw _ _ X.warmed
  have h2 : (Cond.code y bytes maxL ret).before a A.U = true := hws _ hcode _ _ X.warmed
  have h3 : (Cond.initialized y.cls).before a A.U = true := hinit _ _ X.warmed
  have h4 : A.cells + (headSpec ws rm).room.cells ≤ R.cells := by rw [show (headSpec ws rm).room.cells = mc from hrc]; exact hp.1
  have h5 : A.slots + (headSpec ws rm).room.slots ≤ R.slots := by rw [show (headSpec ws rm).room.slots = ms from hrs]; exact hp.2.1
  have hPc : Pc a (A.U.calling g mk a) := hblind _ _ _ _ hp.2.2
  obtain ⟨U, Ls, c0, s0⟩ := A
  dsimp only [Pt.U, Pt.locs, Pt.cells, Pt.slots] at h1 h2 h3 h4 h5 X hn hPc ⊢
  obtain ⟨methY, cY, hmY, hcY, -, hlY, -, -, -, -⟩ := Cond.code_spec hn h2
  obtain ⟨kY, hkY, -⟩ := className_of_methodNamed hn
  have hinitY : kY.init = .initialized := Cond.initialized_spec (findClass_of_methodNamed hn) hkY h3
  have h : At U g.method c below := by rw [hg]; exact X.here
  have hlocals9 : W9 + (maxL + 11) + (headSpec ws rm).room.locals ≤ R.locals := hlocals
  have happ : (headSpec ws rm).appliesLoose y e.platform (U.calling g mk a) = true :=
    Spec.appliesLoose_calling (g := g) h hdg hn hkY hinitY
      (X.room_calling (g := g) (R' := (headSpec ws rm).room) hsize hmY hcY hframes (by rw [hlY]; omega) h4 h5) h1
  obtain ⟨mid, hmid⟩ := h.above
  have hfr : (U.setTop g).frames = (.java g :: mid) ++ below := by rw [State.frames_setTop' g h.top, hmid]; rfl
  obtain ⟨o, s₂, hsteps, -, hend, hq⟩ := Steps.callFree hM p X.admits X.cas X.clock (acts := []) hfr happ hPc trivial
  have hq' : vx_Q Qc XC mc ms free a (U.calling g mk a) o s₂ := hq
  rw [State.frames_setTop' g h.top] at hend
  obtain ⟨g₀, hg0⟩ := Option.isSome_iff_exists.mp h.top
  obtain ⟨r, hr⟩ := State.topJava?_eq_some.mp hg0
  have hr' : (({ U with heap := s₂.heap, slotsUsed := s₂.slotsUsed } : State).setVm s₂.vm).frames = .java g₀ :: r := hr
  rcases hq' with ⟨hqc, L, hfe, hL⟩ | ⟨q, rfl, E, ce, L, hx, hce, hcv, hcl, hW₂, hsm, hL⟩
  · obtain ⟨⟨v, rfl⟩, hW₂, e2, q2, q3, q4, q5, q6⟩ := id hfe
    have e3 : s₂ = ({ (U.calling g mk a).setFrames s₂.frames with heap := s₂.heap, slotsUsed := s₂.slotsUsed } : State).setVm s₂.vm := by
      have : s₂ = ({ s₂ with vm := (U.calling g mk a).vm } : State).setVm s₂.vm := rfl
      rw [e2] at this
      exact this
    obtain ⟨c₂, i₂, len₂, hc₂, hd₂, hf₂⟩ := hend
    have hW' : U.WarmedH s₂.vm := hW₂
    have hcc : c₂ = c := by
      have h1 : s₂.code? g.method = U.code? g.method := by
        rw [State.code?_eq, State.code?_eq, hW'.alike.method?]
      exact Option.some.inj (hc₂.symm.trans (h1.trans h.code))
    subst hcc
    have hlen : len₂ = len := by rw [hdg] at hd₂; cases hd₂; rfl
    subst hlen
    have hs₂ : s₂ = (({ U with heap := s₂.heap, slotsUsed := s₂.slotsUsed } : State).setVm s₂.vm).setTop { g with pc := g.pc + len₂, stack := v.toList ++ g.stack } := by
      refine e3.trans ?_
      rw [hf₂, State.calling_eq h.top, State.setFrames_setFrames, State.setTop_of_frames _ hr', hr]
      rfl
    have hsame : U.sameButNew ({ U with heap := s₂.heap, slotsUsed := s₂.slotsUsed } : State) L mc ms := by
      refine ⟨?_, q2, q3, q4, q5, q6⟩
      obtain ⟨t, ht, -⟩ := State.frames_cons hr
      show ({ U with heap := s₂.heap, slotsUsed := s₂.slotsUsed } : State) = { U.setFrames U.frames with heap := s₂.heap, slotsUsed := s₂.slotsUsed }
      rw [State.setFrames_self ht]
    subst hg
    refine Or.inl ⟨v, ⟨(({ U with heap := s₂.heap, slotsUsed := s₂.slotsUsed } : State).setVm s₂.vm), Ls ++ L, c0 + mc, s0 + ms⟩,
      ⟨X.admits, X.cas, X.clock, X.frames, X.room, X.hears, X.method, X.code, (X.here.setHeapUsed s₂.heap s₂.slotsUsed).setVm hW'.alike, X.tail, State.WarmedH.trans X.warmed hW', X.limits, X.bytes, X.same.trans (hsame.setVm s.vm)⟩,
      ⟨g, mk, s₂, L, rfl, rfl, hqc, rfl, hL, rfl, rfl⟩, ?_⟩
    show Steps p.tables e below _ ((({ U with heap := s₂.heap, slotsUsed := s₂.slotsUsed } : State).setVm s₂.vm).setTop { g with pc := g.pc + len₂, stack := v.toList ++ g.stack })
    rw [← hs₂]
    exact hsteps
  · obtain ⟨e2, q2, q3, q4, q5, q6⟩ := id hsm
    have e3 : s₂ = ({ (U.calling g mk a).setFrames s₂.frames with heap := s₂.heap, slotsUsed := s₂.slotsUsed } : State).setVm s₂.vm := by
      have : s₂ = ({ s₂ with vm := (U.calling g mk a).vm } : State).setVm s₂.vm := rfl
      rw [e2] at this
      exact this
    have hf₂ : s₂.frames = .throwing q :: .java g :: U.frames.tail := hend
    have hW' : U.WarmedH s₂.vm := hW₂
    have hs₂ : s₂ = ((({ U with heap := s₂.heap, slotsUsed := s₂.slotsUsed } : State).setVm s₂.vm).setTop g).pushFrame (.throwing q) := by
      refine e3.trans ?_
      rw [hf₂, State.calling_eq h.top, State.setFrames_setFrames, State.pushFrame, State.frames_setTop _ hr', State.setTop_of_frames _ hr', State.setFrames_setFrames, hr]
      rfl
    have hsame : U.sameButNew ({ U with heap := s₂.heap, slotsUsed := s₂.slotsUsed } : State) L mc ms := by
      refine ⟨?_, q2, q3, q4, q5, q6⟩
      obtain ⟨t, ht, -⟩ := State.frames_cons hr
      show ({ U with heap := s₂.heap, slotsUsed := s₂.slotsUsed } : State) = { U.setFrames U.frames with heap := s₂.heap, slotsUsed := s₂.slotsUsed }
      rw [State.setFrames_self ht]
    subst hg
    refine Or.inr ⟨q, ⟨(({ U with heap := s₂.heap, slotsUsed := s₂.slotsUsed } : State).setVm s₂.vm), Ls ++ L, c0 + mc, s0 + ms⟩,
      ⟨X.admits, X.cas, X.clock, X.frames, X.room, X.hears, X.method, X.code, (X.here.setHeapUsed s₂.heap s₂.slotsUsed).setVm hW'.alike, X.tail, State.WarmedH.trans X.warmed hW', X.limits, X.bytes, X.same.trans (hsame.setVm s.vm)⟩,
      ⟨g, mk, s₂, L, E, ce, rfl, rfl, hx, hce, hcv, hcl, rfl, hL, rfl, rfl⟩, ?_⟩
    show Steps p.tables e below _ (((({ U with heap := s₂.heap, slotsUsed := s₂.slotsUsed } : State).setVm s₂.vm).setTop g).pushFrame (.throwing q))
    rw [← hs₂]
    exact hsteps
end Payer
section Calls
variable {p : Program} {l : Launch} {e : Env} {R : Room} {s : State} {m : MethodId} {args : Array Value} {below : List Frame} {meth : Method} {c : Code} {T : State} {locs : List Loc} {cells slots : Nat}
theorem vx_callV (X : Stand p l e R s m args below meth c T locs cells slots) (hexec : p.tables.exec = Jvm.exec) {own C : String} {index : Nat} {y : MethodName} {bytes : ByteArray} {maxL : Nat} {ret : Option FieldType}
    (hown : s.vm.findClass own = some m.cls) (hlink : (Cond.methodLink own index y).before args s = true) (hinst : (Cond.instanceMethod y).before args s = true) (hsel : (Cond.selects C y y).before args s = true)
    (hcode : (Cond.code y bytes maxL ret).before args s = true) (hy : y.cls ≠ "java/lang/invoke/MethodHandle" ∧ y.cls ≠ "java/lang/invoke/VarHandle")
    {W9 : Nat} {Pre : Pt → Array Value → Prop} {Post : Pt → Array Value → Option Value → Pt → Prop} {PostX : Pt → Array Value → Addr → Pt → Prop} (hK : vx_Back l R p e below s args y 3 W9 Pre Post PostX)
    {b : Addr} {cellB : Cell} (hcell : T.heap[b]? = some cellB) (hobj : cellB.vm.isStatics = false) (hcls : s.vm.findClass C = some cellB.cls)
    {g : JFrame} (hg : g.method = m) (hsize : g.locals.size = c.maxLocals) {argsL rest : List Value} (hlen : ∀ sig, parseMethodDescriptor y.desc = some sig → argsL.length = sig.parameters.length)
    (hstack : g.stack = argsL.reverse ++ .ref b :: rest) (hW : 2 * g.monitorRoom + (rest.map fun v => v.category).sum ≤ W9) (hdg : decode c.code g.pc = .ok (.invokevirtual index, 3))
    (hpre : ∀ vm₁, s.WarmedH vm₁ → Pre ⟨T.setVm vm₁, locs, cells, slots⟩ (Value.ref b :: argsL).toArray) :
    (∃ (v : Option Value) (vm₁ : Vm) (B : Pt), s.WarmedH vm₁ ∧ Stand p l e R s m args below meth c B.U B.locs B.cells B.slots ∧ Post ⟨T.setVm vm₁, locs, cells, slots⟩ (Value.ref b :: argsL).toArray v B ∧
      ∀ target, Steps p.tables e below (B.U.setTop { g with pc := g.pc + 3, stack := v.toList ++ rest }) target → Steps p.tables e below (T.setTop g) target) ∨
    (∃ (q : Addr) (vm₁ : Vm) (B : Pt), s.WarmedH vm₁ ∧ Stand p l e R s m args below meth c B.U B.locs B.cells B.slots ∧ PostX ⟨T.setVm vm₁, locs, cells, slots⟩ (Value.ref b :: argsL).toArray q B ∧
      Steps p.tables e below (T.setTop g) ((B.U.setTop { g with stack := rest }).pushFrame (.throwing q))) := by
  obtain ⟨mk, methM, hnamed, hmethM, hstM, habM⟩ := Cond.instanceMethod_spec hinst
  obtain ⟨methM', cM, hmethM', -, -, -, -, -, -, hsigM⟩ := Cond.code_spec hnamed hcode
  cases hmethM.symm.trans hmethM'
  obtain ⟨c2, r2, m2, q1, q2, q3, q4, kP, hkP, hkPi⟩ := Cond.selects_spec hsel
  cases hcls.symm.trans q1
  cases (State.methodFound?_of_named hnamed hy).symm.trans q2
  cases hnamed.symm.trans q3
  have hselP : selectMethod e.platform s.vm cellB.cls mk = .method mk := by rw [Launch.admits_selectMethod X.admits]; exact q4
  obtain ⟨vm₁, X₁, hstep₁⟩ := X.invokevirtual hexec hown hlink hnamed hmethM hstM hkP hkPi hy (a := b) (cell := cellB) hcell
    (fun z h => by rw [h] at hobj; cases hobj) hselP hmethM habM hkP hkPi (g := g) hg (argsL := argsL) (rest := rest) (hlen _ hsigM) hstack hdg
  rcases hK m meth c ⟨T.setVm vm₁, locs, cells, slots⟩ { g with stack := rest } (.invokevirtual index) mk (Value.ref b :: argsL).toArray X₁ hg hsize hdg hW (X₁.named hnamed) (hpre vm₁ X₁.warmed) with ⟨v, B, X', hpost, hsteps⟩ | ⟨q, B, X', hpost, hsteps⟩
  · exact Or.inl ⟨v, vm₁, B, X₁.warmed, X', hpost, fun target h => hstep₁ _ fun acts => by rw [doInvoke_state]; exact hsteps.trans h⟩
  · exact Or.inr ⟨q, vm₁, B, X₁.warmed, X', hpost, hstep₁ _ fun acts => by rw [doInvoke_state]; exact hsteps⟩
theorem vx_callS (X : Stand p l e R s m args below meth c T locs cells slots) (hexec : p.tables.exec = Jvm.exec) {own : String} {index : Nat} {y : MethodName} {bytes : ByteArray} {maxL : Nat} {ret : Option FieldType}
    (hown : s.vm.findClass own = some m.cls) (hlink : (Cond.methodLink own index y).before args s = true) (hstat : (Cond.static y).before args s = true) (hinit : (Cond.initialized y.cls).before args s = true)
    (hcode : (Cond.code y bytes maxL ret).before args s = true) (hy : y.cls ≠ "java/lang/invoke/MethodHandle" ∧ y.cls ≠ "java/lang/invoke/VarHandle")
    {W9 : Nat} {Pre : Pt → Array Value → Prop} {Post : Pt → Array Value → Option Value → Pt → Prop} {PostX : Pt → Array Value → Addr → Pt → Prop} (hK : vx_Back l R p e below s args y 3 W9 Pre Post PostX)
    {g : JFrame} (hg : g.method = m) (hsize : g.locals.size = c.maxLocals) {argsL rest : List Value} (hlen : ∀ sig, parseMethodDescriptor y.desc = some sig → argsL.length = sig.parameters.length)
    (hstack : g.stack = argsL.reverse ++ rest) (hW : 2 * g.monitorRoom + (rest.map fun v => v.category).sum ≤ W9) (hdg : decode c.code g.pc = .ok (.invokestatic index, 3))
    (hpre : ∀ vm₁, s.WarmedH vm₁ → Pre ⟨T.setVm vm₁, locs, cells, slots⟩ argsL.toArray) :
    (∃ (v : Option Value) (vm₁ : Vm) (B : Pt), s.WarmedH vm₁ ∧ Stand p l e R s m args below meth c B.U B.locs B.cells B.slots ∧ Post ⟨T.setVm vm₁, locs, cells, slots⟩ argsL.toArray v B ∧
      ∀ target, Steps p.tables e below (B.U.setTop { g with pc := g.pc + 3, stack := v.toList ++ rest }) target → Steps p.tables e below (T.setTop g) target) ∨
    (∃ (q : Addr) (vm₁ : Vm) (B : Pt), s.WarmedH vm₁ ∧ Stand p l e R s m args below meth c B.U B.locs B.cells B.slots ∧ PostX ⟨T.setVm vm₁, locs, cells, slots⟩ argsL.toArray q B ∧
      Steps p.tables e below (T.setTop g) ((B.U.setTop { g with stack := rest }).pushFrame (.throwing q))) := by
  obtain ⟨mk, hnamed⟩ := Cond.code_named hcode
  obtain ⟨methM, cM, hmethM, -, -, -, -, -, -, hsigM⟩ := Cond.code_spec hnamed hcode
  have hstatic : methM.isStatic = true := Cond.static_spec hnamed hmethM hstat
  obtain ⟨kP, hkP, -⟩ := className_of_methodNamed hnamed
  have hinitP : kP.init = .initialized := Cond.initialized_spec (findClass_of_methodNamed hnamed) hkP hinit
  obtain ⟨vm₁, X₁, hstep₁⟩ := X.invokestatic hexec hown hlink hnamed hmethM hstatic hkP hinitP hy (g := g) hg (argsL := argsL) (rest := rest) (hlen _ hsigM) hstack hdg
  rcases hK m meth c ⟨T.setVm vm₁, locs, cells, slots⟩ { g with stack := rest } (.invokestatic index) mk argsL.toArray X₁ hg hsize hdg hW (X₁.named hnamed) (hpre vm₁ X₁.warmed) with ⟨v, B, X', hpost, hsteps⟩ | ⟨q, B, X', hpost, hsteps⟩
  · exact Or.inl ⟨v, vm₁, B, X₁.warmed, X', hpost, fun target h => hstep₁ _ fun acts => by rw [doInvoke_state]; exact hsteps.trans h⟩
  · exact Or.inr ⟨q, vm₁, B, X₁.warmed, X', hpost, hstep₁ _ fun acts => by rw [doInvoke_state]; exact hsteps⟩
end Calls
theorem vx_cls {s : State} {T : State} {vm₁ : Vm} {E : String} {k : ClassId} (hW : s.WarmedH vm₁) (h : (T.setVm vm₁).vm.findClass E = some k) : s.vm.findClass E = some k := by
  have h1 : vm₁.findClass E = some k := h
  rw [hW.alike.findClass] at h1
  exact h1
/-- the method's frame g, with q thrown over it -/
def vx_W (p : Program) (l : Launch) (e : Env) (R : Room) (s : State) (m : MethodId) (args : Array Value) (below : List Frame) (meth : Method) (c : Code) (H : Heap) (locs : List Loc) (cells slots : Nat) (Q : State → Prop) (g : JFrame) (q : Addr) : Prop :=
  ∀ T : State, T.heap = H → Stand p l e R s m args below meth c T locs cells slots → ∃ t, Steps p.tables e below ((T.setTop g).pushFrame (.throwing q)) t ∧ Q t
def vx_Run (p : Program) (l : Launch) (e : Env) (R : Room) (s : State) (m : MethodId) (args : Array Value) (below : List Frame) (meth : Method) (c : Code) (H : Heap) (locs : List Loc) (cells slots mc ms : Nat) (g : JFrame) (rest : List Value) (Qa : State → Outcome → State → Prop) (XC : String → Addr → State → State → Prop) (free : Addr → Prop) : Prop :=
  ∀ T : State, T.heap = H → Stand p l e R s m args below meth c T locs cells slots →
    (∃ (v : Option Value) (st₀ t T' : State) (L : List Loc), st₀.heap = H ∧ Stand p l e R s m args below meth c T' (locs ++ L) (cells + mc) (slots + ms) ∧ (∀ q ∈ L, free q.base) ∧ T'.heap = t.heap ∧ T'.vm = t.vm ∧ Qa st₀ (.returned v) t ∧
      Goes p e below T g T' { g with pc := g.pc + 3, stack := v.toList ++ rest }) ∨
    (∃ (q : Addr) (st₀ t T' : State) (L : List Loc) (E : String) (ce : Cell), st₀.heap = H ∧ Stand p l e R s m args below meth c T' (locs ++ L) (cells + mc) (slots + ms) ∧ (∀ z ∈ L, free z.base) ∧ T'.heap = t.heap ∧ T'.vm = t.vm ∧ XC E q st₀ t ∧ t.heap[q]? = some ce ∧ ce.vm = .none ∧ s.vm.findClass E = some ce.cls ∧
      Steps p.tables e below (T.setTop g) ((T'.setTop { g with stack := rest }).pushFrame (.throwing q)))
section Runs
variable {p : Program} {l : Launch} {e : Env} {R : Room} {s : State} {m : MethodId} {args : Array Value} {below : List Frame} {meth : Method} {c : Code} {H : Heap} {locs : List Loc} {cells slots : Nat}
variable {y : MethodName} {bytes cc : ByteArray} {maxL nL mc ms n index : Nat} {ret : Option FieldType} {ws : List Cond} {rm : Room} {Pc : Array Value → State → Prop} {Qc : Array Value → State → Outcome → State → Prop} {XC : String → Addr → State → State → Prop} {free : Addr → Prop} {Ts : List Cond} {own C : String} {b : Addr} {As rest : List Value} {g : JFrame}
theorem vx_callBack (cb : CallB R s args own index y bytes maxL ret ws rm mc ms n) (hM : vx_Met l y ws rm Pc Qc XC mc ms free) (hbl : FrameBlind Pc) : vx_Back l R p e below s args y 3 8 (PreOf R mc ms Pc) (PostOf Qc mc ms free) (vx_Post XC mc ms free) := by
  obtain ⟨hrc, hrs, hfr, hlo, hws, hcw, -, hini, -⟩ := cb
  exact vx_back (bytes := bytes) (maxL := maxL) (ret := ret) hM hbl hrc hrs hfr hlo hws hcw (fun a' U hW => word_at hW (Or.inl (by first | rfl | simp [Cond.onTables, Cond.keeps, Cond.steady])) hini)
theorem vx_runV (S : CallFix p m c cc nL s args Ts own) (hM : vx_Met l y ws rm Pc Qc XC mc ms free) (cw : CallW R s args own C index y bytes maxL ret ws rm mc ms n) (hp : PreV s H C b Pc As)
    (hg : g.method = m) (hn : As.length = n) (hsize : g.locals.size = nL) (hstack : g.stack = As.reverse ++ .ref b :: rest) (hW : 2 * g.monitorRoom + (rest.map fun v => v.category).sum ≤ 8) (hdg : decode cc g.pc = .ok (.invokevirtual index, 3)) (hf : cells + mc ≤ R.cells ∧ slots + ms ≤ R.slots) :
    vx_Run p l e R s m args below meth c H locs cells slots mc ms g rest (Qc (Value.ref b :: As).toArray) XC free := by
  have hK : vx_Back l R p e below s args y 3 8 (PreOf R mc ms Pc) (PostOf Qc mc ms free) (vx_Post XC mc ms free) := vx_callBack cw.1 hM hp.1
  obtain ⟨⟨-, -, -, -, -, -, hcode, -, hy, hlen, hl⟩, hin, hse⟩ := cw
  obtain ⟨hx, hb, hml, ho, -⟩ := S
  obtain ⟨-, ⟨cellB, hcB, hoB, hclB⟩, hPc⟩ := hp
  intro T hT X
  rcases vx_callV X hx (C := C) (bytes := bytes) (maxL := maxL) (ret := ret) ho hl hin hse hcode hy hK (by rw [hT]; exact hcB) hoB hclB hg (hsize.trans hml.symm) (argsL := As) (rest := rest) (fun sig h => hn.trans (hlen sig h)) hstack hW (by rw [hb]; exact hdg)
    (fun vm₁ hW₁ => ⟨hf.1, hf.2, hPc (T.setVm vm₁) hT hW₁⟩) with ⟨v, vm₁, ⟨U', l2, c2, s2⟩, hW₁, X', ⟨g', mk, t, L, e1, e2, hq, h1, hL, h2, h3⟩, st⟩ | ⟨q, vm₁, ⟨U', l2, c2, s2⟩, hW₁, X', ⟨g', mk, t, L, E, ce, e1, e2, hq, hce, hcv, hcl, h1, hL, h2, h3⟩, st⟩
  · dsimp only [Pt.U, Pt.locs, Pt.cells, Pt.slots] at X' e1 e2 h1 h2 h3 st
    subst h1; subst h2; subst h3
    exact Or.inl ⟨v, (T.setVm vm₁).calling g' mk (Value.ref b :: As).toArray, t, U', L, hT, X', hL, e1, e2, hq, st⟩
  · dsimp only [Pt.U, Pt.locs, Pt.cells, Pt.slots] at X' e1 e2 h1 h2 h3 st hcl
    subst h1; subst h2; subst h3
    exact Or.inr ⟨q, (T.setVm vm₁).calling g' mk (Value.ref b :: As).toArray, t, U', L, E, ce, hT, X', hL, e1, e2, hq, hce, hcv, vx_cls hW₁ hcl, st⟩
theorem vx_runS (S : CallFix p m c cc nL s args Ts own) (hM : vx_Met l y ws rm Pc Qc XC mc ms free) (cw : CallB R s args own index y bytes maxL ret ws rm mc ms n ∧ (Cond.static y).before args s = true) (hp : PreS s H Pc As)
    (hg : g.method = m) (hn : As.length = n) (hsize : g.locals.size = nL) (hstack : g.stack = As.reverse ++ rest) (hW : 2 * g.monitorRoom + (rest.map fun v => v.category).sum ≤ 8) (hdg : decode cc g.pc = .ok (.invokestatic index, 3)) (hf : cells + mc ≤ R.cells ∧ slots + ms ≤ R.slots) :
    vx_Run p l e R s m args below meth c H locs cells slots mc ms g rest (Qc As.toArray) XC free := by
  have hK : vx_Back l R p e below s args y 3 8 (PreOf R mc ms Pc) (PostOf Qc mc ms free) (vx_Post XC mc ms free) := vx_callBack cw.1 hM hp.1
  obtain ⟨⟨-, -, -, -, -, -, hcode, hini, hy, hlen, hl⟩, hstt⟩ := cw
  obtain ⟨hx, hb, hml, ho, -⟩ := S
  intro T hT X
  rcases vx_callS X hx (bytes := bytes) (maxL := maxL) (ret := ret) ho hl hstt hini hcode hy hK hg (hsize.trans hml.symm) (argsL := As) (rest := rest) (fun sig h => hn.trans (hlen sig h)) hstack hW (by rw [hb]; exact hdg)
    (fun vm₁ hW₁ => ⟨hf.1, hf.2, hp.2 (T.setVm vm₁) hT hW₁⟩) with ⟨v, vm₁, ⟨U', l2, c2, s2⟩, hW₁, X', ⟨g', mk, t, L, e1, e2, hq, h1, hL, h2, h3⟩, st⟩ | ⟨q, vm₁, ⟨U', l2, c2, s2⟩, hW₁, X', ⟨g', mk, t, L, E, ce, e1, e2, hq, hce, hcv, hcl, h1, hL, h2, h3⟩, st⟩
  · dsimp only [Pt.U, Pt.locs, Pt.cells, Pt.slots] at X' e1 e2 h1 h2 h3 st
    subst h1; subst h2; subst h3
    exact Or.inl ⟨v, (T.setVm vm₁).calling g' mk As.toArray, t, U', L, hT, X', hL, e1, e2, hq, st⟩
  · dsimp only [Pt.U, Pt.locs, Pt.cells, Pt.slots] at X' e1 e2 h1 h2 h3 st hcl
    subst h1; subst h2; subst h3
    exact Or.inr ⟨q, (T.setVm vm₁).calling g' mk As.toArray, t, U', L, E, ce, hT, X', hL, e1, e2, hq, hce, hcv, vx_cls hW₁ hcl, st⟩
end Runs
section Rows
variable {p : Program} {l : Launch} {e : Env} {R : Room} {s : State} {m : MethodId} {args : Array Value} {below : List Frame} {meth : Method} {c : Code} {H : Heap} {locs : List Loc} {cells slots : Nat} {Q : State → Prop}
variable {mc ms : Nat} {free : Addr → Prop} {A0 A1 : Nat → Prop} {H0 : Heap} {a : Array Value} {pc : Nat} {ls : Array Slot} {st0 rest : List Value}
theorem vx_catch {own name : String} {E : String} {ce : Cell} {q : Addr} (hown : s.vm.findClass own = some m.cls) (pre : List ExceptionTableEntry) (x : ExceptionTableEntry) (suf : List ExceptionTableEntry) (hsplit : c.exceptionTable.toList = pre ++ x :: suf)
    (hpass : ∀ z ∈ pre, covers z pc = false ∨ (z.catchType ≠ 0 ∧ ∃ nm : String, (Cond.classLink own z.catchType nm).before args s = true ∧ va_Nc E nm s)) (hx : covers x pc = true) (h0 : x.catchType ≠ 0)
    (hlink : (Cond.classLink own x.catchType name).before args s = true) (hcast : (Cond.castable E name).before args s = true) (hcell : H[q]? = some ce) (hv : ce.vm = .none) (hcl : s.vm.findClass E = some ce.cls)
    (kk : W p l e R s m args below meth c H locs cells slots Q (F0 m x.handlerPc ls [.ref q])) : vx_W p l e R s m args below meth c H locs cells slots Q (F0 m pc ls rest) q := by
  intro T hT X
  have hpl : e.platform.magicAccessors = ({} : Platform).magicAccessors := by rw [X.admits.platform]
  obtain ⟨c3, c4, hc3, hc4, hasg⟩ := Cond.castable_spec hcast
  cases Option.some.inj (hc3.symm.trans hcl)
  obtain ⟨c5, hc5, hcl5⟩ := Cond.classLink_spec hown hlink e.platform hpl
  cases Option.some.inj (hc4.symm.trans hc5)
  obtain ⟨vm', X', st⟩ := X.thenCaughtThrough q (g := F0 m pc ls rest) rfl (Steps.refl _) (by rw [hT]; exact hcell) (by rw [hv]; rfl) (by obtain ⟨k9, h9, -⟩ := Vm.findClass_spec hcl; exact ⟨k9, h9⟩) pre x suf hsplit
    (fun z hz => by
      rcases hpass z hz with h | ⟨hz0, nm, hl1, hn1⟩
      · exact Or.inl h
      · obtain ⟨c6, hc6, hcl6⟩ := Cond.classLink_spec hown hl1 e.platform hpl
        obtain ⟨a8, b8, h1, h2, h3⟩ := hn1
        cases Option.some.inj (h1.symm.trans hcl)
        cases Option.some.inj (h2.symm.trans hc6)
        exact Or.inr ⟨hz0, _, hcl6, h3⟩) hx (Or.inr ⟨h0, c4, hcl5, hasg⟩)
  obtain ⟨t, a1, b1⟩ := kk (T.setVm vm') hT X'
  exact ⟨t, st.trans a1, b1⟩
end Rows
section Ends
variable {p : Program} {l : Launch} {e : Env} {R : Room} {s : State} {m : MethodId} {args : Array Value} {below : List Frame} {meth : Method} {c : Code} {H : Heap} {locs : List Loc} {cells slots : Nat} {Q : State → Prop}
variable {mc ms : Nat} {free : Addr → Prop} {A0 A1 : Nat → Prop} {H0 : Heap} {a : Array Value} {ls : Array Slot} {st0 rest : List Value}
variable {Qc : Array Value → State → Outcome → State → Prop} {XC : String → Addr → State → State → Prop}
/-- what a body that may throw owes at its end -/
def vx_MQ (below : List Frame) (Qc : Array Value → State → Outcome → State → Prop) (XC : String → Addr → State → State → Prop) (a : Array Value) (s : State) (mc ms : Nat) (free : Addr → Prop) : State → Prop := fun t =>
  ∃ o, t.status = .running ∧ Ended t below o ∧ vx_Q Qc XC mc ms free a s o t
theorem vx_ret {g : JFrame} {mc ms : Nat} (k : W p l e R s m args below meth c H locs cells slots (MQ below Qc args s mc ms free) g) : W p l e R s m args below meth c H locs cells slots (vx_MQ below Qc XC args s mc ms free) g := by
  intro T hT X
  obtain ⟨t, a1, o, b1, b2, b3, b4⟩ := k T hT X
  exact ⟨t, a1, o, b1, b2, Or.inl ⟨b3, b4⟩⟩
/-- not caught here: it goes on to the caller -/
theorem vx_widen {g : JFrame} {q : Addr} {k n : Nat} (h1 : cells ≤ k) (h2 : slots ≤ n) (kk : vx_W p l e R s m args below meth c H locs k n Q g q) : vx_W p l e R s m args below meth c H locs cells slots Q g q := fun T hT X => kk T hT (stand_widen X h1 h2)
theorem vx_out {pc : Nat} {E : String} {ce : Cell} {q : Addr} {mc ms : Nat} (hout : ∀ x ∈ c.exceptionTable.toList, covers x pc = false) (hlocks : meth.locks = false) (hcell : H[q]? = some ce) (hv : ce.vm = .none) (hcl : s.vm.findClass E = some ce.cls)
    (hx : ∀ t : State, t.heap = H → s.vm.Alike t.vm → XC E q s t) (hf : ∀ z ∈ locs, free z.base) (hc : cells ≤ mc) (hs : slots ≤ ms) :
    vx_W p l e R s m args below meth c H locs cells slots (vx_MQ below Qc XC args s mc ms free) (F0 m pc ls rest) q := by
  intro T hT X
  obtain ⟨st1, hrun, hend, hW, hsm⟩ := X.leaveThrown q (g := F0 m pc ls rest) rfl rfl rfl hout hlocks
  have hcell9 : (T.setFrames (.throwing q :: below)).heap[q]? = some ce := by
    show T.heap[q]? = some ce
    rw [hT]; exact hcell
  exact ⟨_, st1, .threw q, hrun, hend, Or.inr ⟨q, rfl, E, ce, locs, hx _ hT hW.alike, hcell9, hv, hcl, hW, hsm.mono hc hs, hf⟩⟩
theorem vx_frame {U : State} {k n : Nat} (h : s.sameButNew ({ U with vm := s.vm } : State) locs k n) : s.heap.size ≤ U.heap.size ∧ ∀ q : Nat, q < s.heap.size → (∀ z ∈ locs, z.base ≠ q) → U.heap[q]? = s.heap[q]? := by
  obtain ⟨-, h2, -, -, -, h6⟩ := h
  refine ⟨h2, fun q hq hz => ?_⟩
  obtain ⟨c9, e1, e2, e3, e4⟩ := h6 q _ (Array.getElem?_eq_getElem hq)
  have hs : c9.slots = (s.heap[q]).slots := Array.ext_getElem? fun i => e4 i fun hm => hz _ hm rfl
  have h9 : c9 = s.heap[q] := by
    rw [hs] at e2
    exact e2
  have e5 : U.heap[q]? = some c9 := e1
  rw [e5, h9, Array.getElem?_eq_getElem hq]
/-- the words of a throw but the four that speak of the heap -/
def vx_no (w : Cond) : Bool := decide (w ≠ .isRef (.static Bundle.tN "UNASSIGNED_STACK" Bundle.steD)) && decide (w ≠ .isRef (.static Bundle.tN "SUPPRESSED_SENTINEL" Bundle.listD)) && decide (w ≠ .laysStatic Bundle.tN "UNASSIGNED_STACK" Bundle.steD) && decide (w ≠ .laysStatic Bundle.tN "SUPPRESSED_SENTINEL" Bundle.listD)
def vx_at0 (own : String) (ic : Nat) (X : String) (names : List String) : List Cond := (Bundle.ownAtoms0 own ic X names).filter vx_no
def vx_atS (own : String) (ic : Nat) (X : String) (names : List String) : List Cond := (Bundle.ownAtoms own ic X names).filter vx_no
/-- a word that the tables alone decide, or a good one -/
def vx_ot (w : Cond) : Bool := w.onTables || goodWord w
theorem vx_ot_at {args a' : Array Value} {s U : State} {w : Cond} (hW : s.WarmedH U.vm) (hvm : s.vm = U.vm) (hg : vx_ot w = true) (h : w.before args s = true) : w.before a' U = true := by
  simp only [vx_ot, Bool.or_eq_true] at hg
  rcases hg with hg | hg
  · exact va_tabs hg hvm h
  · exact word_at hW (good_of_word hg) h
/-- a list's words: the good ones out of the method's own list, the others by premises of their own -/
theorem vx_hat {args : Array Value} {s : State} {L B : List Cond} (h1 : ∀ w ∈ L.filter goodWord, w.before args s = true) (h2 : ∀ w ∈ L.filter (fun w => !goodWord w), w ∈ B) (h3 : ∀ w ∈ B, w.before args s = true) : ∀ w ∈ L, w.before args s = true := by
  intro w hw
  by_cases g : goodWord w = true
  · exact h1 w (List.mem_filter.mpr ⟨hw, g⟩)
  · refine h3 w (h2 w (List.mem_filter.mpr ⟨hw, ?_⟩))
    show (!goodWord w) = true
    cases hgw : goodWord w
    · rfl
    · exact absurd hgw g
theorem vx_c {args : Array Value} {s : State} {w : Cond} {B : List Cond} (h : w.before args s = true) (t : ∀ w ∈ B, w.before args s = true) : ∀ w' ∈ w :: B, w'.before args s = true := fun w' h' => (List.mem_cons.mp h').elim (fun e => by rw [e]; exact h) (t w')
theorem vx_n {args : Array Value} {s : State} : ∀ w ∈ ([] : List Cond), w.before args s = true := fun _ h => nomatch h
theorem vx_own {args : Array Value} {s : State} {L : List Cond} (h1 : ∀ w ∈ L.filter vx_no, w.before args s = true)
    (hU : (Cond.isRef (.static Bundle.tN "UNASSIGNED_STACK" Bundle.steD)).before args s = true) (hN : (Cond.isRef (.static Bundle.tN "SUPPRESSED_SENTINEL" Bundle.listD)).before args s = true)
    (lU : (Cond.laysStatic Bundle.tN "UNASSIGNED_STACK" Bundle.steD).before args s = true) (lN : (Cond.laysStatic Bundle.tN "SUPPRESSED_SENTINEL" Bundle.listD).before args s = true) : ∀ w ∈ L, w.before args s = true := by
  intro w hw
  by_cases e1 : w = .isRef (.static Bundle.tN "UNASSIGNED_STACK" Bundle.steD)
  · rw [e1]; exact hU
  · by_cases e2 : w = .isRef (.static Bundle.tN "SUPPRESSED_SENTINEL" Bundle.listD)
    · rw [e2]; exact hN
    · by_cases e3 : w = .laysStatic Bundle.tN "UNASSIGNED_STACK" Bundle.steD
      · rw [e3]; exact lU
      · by_cases e4 : w = .laysStatic Bundle.tN "SUPPRESSED_SENTINEL" Bundle.listD
        · rw [e4]; exact lN
        · exact h1 w (List.mem_filter.mpr ⟨hw, by unfold vx_no; rw [decide_eq_true e1, decide_eq_true e2, decide_eq_true e3, decide_eq_true e4]; rfl⟩)
/-- where a static field lies, its class's statics cell in H -/
def vx_L (C n d : String) (A : Nat → Prop) (U : State) (H : Heap) : Prop := ∃ (c : ClassId) (k : Class) (i : Nat) (f : Field) (a : Nat) (cell : Cell), U.vm.findClass C = some c ∧ U.fieldFound? C n d = some (c, k, i, f) ∧ f.isStatic = true ∧ k.statics = some a ∧ H[a]? = some cell ∧ cell.vm.isStatics = true ∧ cell.cls = c ∧ f.slot < cell.slots.size ∧ k.staticTypes[f.slot]? = some f.type ∧ ¬ A a
theorem vx_L.moved {C n d : String} {A : Nat → Prop} {u U : State} {H : Heap} (hvm : u.vm.Alike U.vm) (h : vx_L C n d A u H) : vx_L C n d A U H := by
  obtain ⟨c, k, i, f, a, cell, h1, h2, h3, h4, h5, h6, h7, h8, h9, h10⟩ := h
  obtain ⟨k', hi', he⟩ := State.fieldFound?_setVm hvm h2
  exact ⟨c, k', i, f, a, cell, by rw [hvm.findClass]; exact h1, hi', h3, by rw [he]; exact h4, h5, h6, h7, h8, by rw [he]; exact h9, h10⟩
theorem vx_L.kept {C n d : String} {A : Nat → Prop} {U : State} {H H1 : Heap} (h : vx_L C n d A U H) (hq : ∀ a : Nat, a < H.size → ¬ A a → H1[a]? = H[a]?) : vx_L C n d A U H1 := by
  obtain ⟨c, k, i, f, a, cell, h1, h2, h3, h4, h5, h6, h7, h8, h9, h10⟩ := h
  exact ⟨c, k, i, f, a, cell, h1, h2, h3, h4, by rw [hq a (Array.getElem?_eq_some_iff.mp h5).1 h10]; exact h5, h6, h7, h8, h9, h10⟩
theorem vx_L.narrow {C n d : String} {A B : Nat → Prop} {U : State} {H : Heap} (h : vx_L C n d A U H) (hAB : ∀ q, B q → A q) : vx_L C n d B U H := by
  obtain ⟨c, k, i, f, a, cell, h1, h2, h3, h4, h5, h6, h7, h8, h9, h10⟩ := h
  exact ⟨c, k, i, f, a, cell, h1, h2, h3, h4, h5, h6, h7, h8, h9, fun z => h10 (hAB _ z)⟩
theorem vx_L.word {C n d : String} {A : Nat → Prop} {s : State} {args : Array Value} (h : vx_L C n d A s s.heap) : (Cond.laysStatic C n d).before args s = true := by
  obtain ⟨c, k, i, f, a, cell, h1, h2, h3, h4, h5, h6, h7, h8, h9, -⟩ := h
  show (Cond.laysStatic C n d).holds args s none s [] = true
  exact Cond.laysStatic_of h1 h2 h3 h4 h5 h6 h7 h8 h9
/-- .. and what it holds: null or some reference -/
def vx_Zq (C n d : String) (A : Nat → Prop) (U : State) (H : Heap) : Prop := va_Zq C n d A U H ∧ vx_L C n d A U H
theorem vx_Zq.moved {C n d : String} {A : Nat → Prop} {u U : State} {H : Heap} (hvm : u.vm.Alike U.vm) (h : vx_Zq C n d A u H) : vx_Zq C n d A U H := ⟨va_Zq.moved hvm h.1, vx_L.moved hvm h.2⟩
theorem vx_Zq.kept {C n d : String} {A : Nat → Prop} {U : State} {H H1 : Heap} (h : vx_Zq C n d A U H) (hq : ∀ a : Nat, a < H.size → ¬ A a → H1[a]? = H[a]?) : vx_Zq C n d A U H1 := ⟨va_Zq.kept h.1 hq, vx_L.kept h.2 hq⟩
theorem vx_Zq.narrow {C n d : String} {A B : Nat → Prop} {U : State} {H : Heap} (h : vx_Zq C n d A U H) (hAB : ∀ q, B q → A q) : vx_Zq C n d B U H := ⟨va_Zq.narrow h.1 hAB, vx_L.narrow h.2 hAB⟩
theorem vx_Zqof {args : Array Value} {s : State} {C n d : String} {A : Nat → Prop} (hl : (Cond.laysStatic C n d).before args s = true) (hini : (Cond.initialized C).before args s = true) (h : (Cond.isRef (.static C n d)).before args s = true) (hA : ∀ a : Nat, a < s.heap.size → ¬ A a) : vx_Zq C n d A s s.heap := by
  refine ⟨va_Zqof hl hini h hA, ?_⟩
  obtain ⟨c, k, i, f, a, cell, h1, h2, h3, h4, h5, h6, h7, h8, h9⟩ := Cond.laysStatic_spec hl
  exact ⟨c, k, i, f, a, cell, h1, h2, h3, h4, h5, h6, h7, h8, h9, hA a (Array.getElem?_eq_some_iff.mp h5).1⟩
theorem vx_isRef {C n d : String} {v : Value} {A : Nat → Prop} {s : State} {args : Array Value} (h : va_Z C n d v A s s.heap) (hv : v.isRef = true) : (Cond.isRef (.static C n d)).before args s = true := by
  obtain ⟨cf, kf, fi, f, a, cell, h1, h2, h3, h4, h5, h6, h7, -⟩ := h
  have he : (Term.static C n d).eval args s none [] s = some v := by
    simp [Term.eval, State.fieldNamed?, h1, h2, h4, h5, h6, h7]
  simp only [Cond.before, Cond.holds, Cond.value, he]
  cases v <;> simp_all [Value.isRef]
theorem vx_isRefq {C n d : String} {A : Nat → Prop} {s : State} {args : Array Value} (h : va_Zq C n d A s s.heap) : (Cond.isRef (.static C n d)).before args s = true := by
  rcases h with h | ⟨t, h⟩
  · exact vx_isRef h rfl
  · exact vx_isRef h rfl
/-- the same frame, seen from here: as if the method were called anew in this heap -/
theorem vx_rebase {T : State} (X : Stand p l e R s m args below meth c T locs cells slots) {R' : Room} (hf : R'.frames ≤ R.frames) (hl : R'.locals ≤ R.locals) (hc : cells + R'.cells ≤ R.cells) (hs : slots + R'.slots ≤ R.slots) :
    Stand p l e R' ((T.setVm s.vm).setFrames (.invoking m args :: below)) m args below meth c T [] 0 0 := by
  have htop : (T.setVm s.vm).topJava?.isSome := X.here.top
  have hF : ((T.setVm s.vm).setFrames (.invoking m args :: below)).frames = .invoking m args :: below := State.frames_setFrames _ (State.cur_lt_of_top htop)
  obtain ⟨g₀, hg0⟩ := Option.isSome_iff_exists.mp htop
  obtain ⟨r, hr⟩ := State.topJava?_eq_some.mp hg0
  have hl9 : e.platform.stackLimits (T.setVm s.vm).me = e.platform.stackLimits s.me := X.limits
  have hb9 : (T.setVm s.vm).me.stackBytes = s.me.stackBytes := X.bytes
  refine ⟨X.admits, X.cas, X.clock, hF, ?_, X.hears, X.method, X.code, X.here, X.tail, X.warmed, ?_, ?_, ?_⟩
  · have h := X.room
    have hU : ((T.setVm s.vm).setFrames (.invoking m args :: below)).localsInUse = s.localsInUse := by
      rw [State.localsInUse_invoking hF (meth := meth) (c := c) X.method X.code, State.localsInUse_invoking X.frames X.method X.code]
    simp only [State.hasRoom, Bool.and_eq_true, decide_eq_true_eq] at h ⊢
    obtain ⟨⟨⟨⟨h1, h2, h3, h4, h5, h6⟩, h7⟩, h8⟩, h9⟩ := h
    rw [X.frames, List.length_cons] at h2 h3
    have q1 := X.heapSize
    have q2 := X.used
    simp only [hF, hU, List.length_cons, State.stackLimits_setFrames, State.stackBytes_setFrames, hl9, hb9]
    refine ⟨⟨⟨⟨by omega, by omega, by omega, by omega, by omega, h6⟩, ?_⟩, ?_⟩, X.book⟩
    · show T.heap.size + R'.cells ≤ e.platform.maxCells
      omega
    · show T.slotsUsed + R'.slots ≤ e.platform.maxSlots
      omega
  · rw [State.stackLimits_setFrames]; rfl
  · rw [State.stackBytes_setFrames]; rfl
  · refine ⟨?_, Nat.le_refl _, Nat.le_refl _, ?_, ?_, fun a c9 h9 => ⟨c9, h9, rfl, rfl, fun _ _ => rfl⟩⟩
    · obtain ⟨t, ht, -⟩ := State.frames_cons hr
      show T.setVm s.vm = { ((T.setVm s.vm).setFrames (.invoking m args :: below)).setFrames (T.setVm s.vm).frames with heap := T.heap, slotsUsed := T.slotsUsed }
      rw [State.setFrames_setFrames, State.setFrames_self ht]
      rfl
    · show T.slotsUsed = T.slotsUsed + ((T.heap.toList.drop T.heap.size).map (·.slots.size)).sum
      rw [List.drop_eq_nil_of_le (Nat.le_of_eq Array.length_toList)]
      rfl
    · show ((T.heap.toList.drop T.heap.size).map (·.slots.size)).sum ≤ 0
      rw [List.drop_eq_nil_of_le (Nat.le_of_eq Array.length_toList)]
      exact Nat.le_refl _
end Ends
section Bodies
variable {l : Launch}
theorem vx_ofW {y : MethodName} {ws ws' : List Cond} {rm : Room} {Pc : Array Value → State → Prop} {Qc : Array Value → State → Outcome → State → Prop} {XC : String → Addr → State → State → Prop} {mc ms : Nat} {free : Addr → Prop} {cc : ByteArray} {maxL : Nat} {ret : Option FieldType}
    (hy : plainName y.cls = true) (hw : ws = Cond.code y cc maxL ret :: ws')
    (body : ∀ p e s m args below meth c s₁, BodyLoose p l y (headSpec ws rm) cc maxL ret e s m args below meth c s₁ → c.maxLocals = maxL → (∀ x ∈ c.exceptionTable.toList, False) → Pc args s →
      W p l e (headSpec ws rm).room s m args below meth c s.heap [] 0 0 (vx_MQ below Qc XC args s mc ms free) (entryFrame m args maxL)) : vx_Met l y ws rm Pc Qc XC mc ms free := by
  refine MetFree.of_bodyS (code := cc) (maxLocals := maxL) (ret := ret) hy ?_ ?_
  · intro args s m h hn
    obtain ⟨meth, c, h1, h2, h3, h4, h5, h6, -, -⟩ := Cond.code_spec hn (atoms_spec (ws := ws) h _ (by rw [hw]; exact List.mem_cons_self))
    exact ⟨meth, c, h1, h2, h3, h4, h5, h6⟩
  · intro p e s m args below meth c s₁ B hml hP _
    have hh0 : s₁.heap = s.heap := by rw [B.state]; rfl
    have ht : ∀ x ∈ c.exceptionTable.toList, False := by
      obtain ⟨meth9, c9, h1, h2, -, -, -, -, h7, -⟩ := Cond.code_spec B.named (atoms_spec (ws := ws) B.pre _ (by rw [hw]; exact List.mem_cons_self))
      cases Option.some.inj (h1.symm.trans B.method)
      cases Option.some.inj (h2.symm.trans (Stand.of_body B).code)
      intro x hx
      rw [Array.isEmpty_iff.mp h7] at hx
      cases hx
    obtain ⟨t, a1, o, b1, b2, b3⟩ := body p e s m args below meth c s₁ B hml ht hP s₁ hh0 (Stand.of_body B)
    exact ⟨t, o, a1, b1, b2, b3⟩
/-- the table of a body with handlers -/
theorem vx_table {p : Program} {y : MethodName} {S : Spec} {cc bytes : ByteArray} {maxL maxL' : Nat} {ret ret' : Option FieldType} {e : Env} {s s₁ : State} {m : MethodId} {args : Array Value} {below : List Frame} {meth : Method} {c : Code} {hh : List (Nat × Nat × Nat × Nat)}
    (B : BodyLoose p l y S cc maxL ret e s m args below meth c s₁) (h : (Cond.codeWith y bytes maxL' ret' hh).before args s = true) : c.exceptionTable.toList = tableOf hh := by
  obtain ⟨m9, meth9, c9, hn9, h1, h2, -, -, h6, -⟩ := Cond.codeWith_spec h
  cases Option.some.inj (hn9.symm.trans B.named)
  cases Option.some.inj (h1.symm.trans B.method)
  cases Option.some.inj (h2.symm.trans (Stand.of_body B).code)
  rw [← h6, table_eq]
end Bodies
end VXA
section VXS
variable {p : Program} {l : Launch} {e : Env} {R : Room} {s : State} {m : MethodId} {args : Array Value} {below : List Frame} {meth : Method} {c : Code} {T : State} {H : Heap} {locs : List Loc} {cells slots : Nat}
abbrev vx_CSW (R : Room) (s : State) (args : Array Value) (own : String) (index : Nat) (y : MethodName) (bytes : ByteArray) (maxL : Nat) (ret : Option FieldType) (hh : List (Nat × Nat × Nat × Nat)) (ws : List Cond) (rm : Room) (mc ms n : Nat) : Prop :=
  (rm.cells = mc ∧ rm.slots = ms ∧ rm.frames + 1 ≤ R.frames ∧ 8 + (maxL + 11) + rm.locals ≤ R.locals ∧ (∀ w ∈ ws, ∀ (a' : Array Value) (U : State), s.WarmedH U.vm → w.before a' U = true) ∧ Cond.codeWith y bytes maxL ret hh ∈ ws) ∧
  (Cond.codeWith y bytes maxL ret hh).before args s = true ∧ (Cond.initialized y.cls).before args s = true ∧ (y.cls ≠ "java/lang/invoke/MethodHandle" ∧ y.cls ≠ "java/lang/invoke/VarHandle") ∧
  (∀ sig, parseMethodDescriptor y.desc = some sig → n = sig.parameters.length) ∧ (Cond.methodLink own index y).before args s = true ∧ (Cond.static y).before args s = true
theorem vx_cwSW {own : String} {index maxL mc ms : Nat} {y : MethodName} {bytes : ByteArray} {ret : Option FieldType} {hh : List (Nat × Nat × Nat × Nat)} {Ts ws ws' : List Cond} {rm : Room} (n : Nat) (ht : ∀ w ∈ Ts, w.before args s = true) (hT : GoodIn Ts (va_wsS own index y ws)) (hw : ws = Cond.codeWith y bytes maxL ret hh :: ws') (hrc : rm.cells = mc) (hrs : rm.slots = ms)
    (hd : y.cls ≠ "java/lang/invoke/MethodHandle" ∧ y.cls ≠ "java/lang/invoke/VarHandle" ∧ (parseMethodDescriptor y.desc).map (fun d => d.parameters.length) = some n) (hR : rm.frames + 1 ≤ R.frames ∧ 8 + (maxL + 11) + rm.locals ≤ R.locals) :
    vx_CSW R s args own index y bytes maxL ret hh ws rm mc ms n := by
  have ok : ∀ w ∈ va_wsS own index y ws, w.before args s = true := fun w h => ht w (hT w h).1
  have hG : GoodIn Ts ws := fun w h => hT w (by unfold va_wsS; exact List.mem_append_right _ h)
  have hc : Cond.codeWith y bytes maxL ret hh ∈ ws := by rw [hw]; exact List.mem_cons_self
  refine ⟨⟨hrc, hrs, hR.1, hR.2, pay_in ht hG, hc⟩, ht _ (hG _ hc).1, ok _ (by simp [va_wsS]), ⟨hd.1, hd.2.1⟩, fun sig h => ?_, ok _ (by simp [va_wsS]), ok _ (by simp [va_wsS])⟩
  have h2 := hd.2.2
  rw [h] at h2
  exact (Option.some.inj h2).symm
theorem vx_callSW (X : Stand p l e R s m args below meth c T locs cells slots) (hexec : p.tables.exec = Jvm.exec) {own : String} {index : Nat} {y : MethodName} {bytes : ByteArray} {maxL : Nat} {ret : Option FieldType} {hh : List (Nat × Nat × Nat × Nat)}
    (hown : s.vm.findClass own = some m.cls) (hlink : (Cond.methodLink own index y).before args s = true) (hstat : (Cond.static y).before args s = true) (hinit : (Cond.initialized y.cls).before args s = true)
    (hcode : (Cond.codeWith y bytes maxL ret hh).before args s = true) (hy : y.cls ≠ "java/lang/invoke/MethodHandle" ∧ y.cls ≠ "java/lang/invoke/VarHandle")
    {W9 : Nat} {Pre : Pt → Array Value → Prop} {Post : Pt → Array Value → Option Value → Pt → Prop} (hK : Back l R p e below s args y 3 W9 Pre Post)
    {g : JFrame} (hg : g.method = m) (hsize : g.locals.size = c.maxLocals) {argsL rest : List Value} (hlen : ∀ sig, parseMethodDescriptor y.desc = some sig → argsL.length = sig.parameters.length)
    (hstack : g.stack = argsL.reverse ++ rest) (hW : 2 * g.monitorRoom + (rest.map fun v => v.category).sum ≤ W9) (hdg : decode c.code g.pc = .ok (.invokestatic index, 3))
    (hpre : ∀ vm₁, s.WarmedH vm₁ → Pre ⟨T.setVm vm₁, locs, cells, slots⟩ argsL.toArray) :
    ∃ (v : Option Value) (vm₁ : Vm) (B : Pt), s.WarmedH vm₁ ∧ Stand p l e R s m args below meth c B.U B.locs B.cells B.slots ∧ Post ⟨T.setVm vm₁, locs, cells, slots⟩ argsL.toArray v B ∧
      ∀ target, Steps p.tables e below (B.U.setTop { g with pc := g.pc + 3, stack := v.toList ++ rest }) target → Steps p.tables e below (T.setTop g) target := by
  obtain ⟨mk, methM, cM, hnamed, hmethM, -, -, -, -, -, -, hsigM⟩ := Cond.codeWith_spec hcode
  have hstatic : methM.isStatic = true := Cond.static_spec hnamed hmethM hstat
  obtain ⟨kP, hkP, -⟩ := className_of_methodNamed hnamed
  have hinitP : kP.init = .initialized := Cond.initialized_spec (findClass_of_methodNamed hnamed) hkP hinit
  obtain ⟨vm₁, X₁, hstep₁⟩ := X.invokestatic hexec hown hlink hnamed hmethM hstatic hkP hinitP hy (g := g) hg (argsL := argsL) (rest := rest) (hlen _ hsigM) hstack hdg
  obtain ⟨v, B, X', hpost, hsteps⟩ := hK m meth c ⟨T.setVm vm₁, locs, cells, slots⟩ { g with stack := rest } (.invokestatic index) mk argsL.toArray X₁ hg hsize hdg hW (X₁.named hnamed) (hpre vm₁ X₁.warmed)
  exact ⟨v, vm₁, B, X₁.warmed, X', hpost, fun target h => hstep₁ _ fun acts => by rw [doInvoke_state]; exact hsteps.trans h⟩
theorem vx_runSW {y : MethodName} {bytes cc : ByteArray} {maxL nL mc ms n index : Nat} {ret : Option FieldType} {hh : List (Nat × Nat × Nat × Nat)} {ws : List Cond} {rm : Room} {Pc : Array Value → State → Prop} {Qc : Array Value → State → Outcome → State → Prop} {free : Addr → Prop} {Ts : List Cond} {own : String} {As rest : List Value} {g : JFrame}
    (S : CallFix p m c cc nL s args Ts own) (hM : Met l y ws rm Pc Qc mc ms free) (cw : vx_CSW R s args own index y bytes maxL ret hh ws rm mc ms n) (hp : PreS s H Pc As)
    (hg : g.method = m) (hn : As.length = n) (hsize : g.locals.size = nL) (hstack : g.stack = As.reverse ++ rest) (hW : 2 * g.monitorRoom + (rest.map fun v => v.category).sum ≤ 8) (hdg : decode cc g.pc = .ok (.invokestatic index, 3)) (hf : cells + mc ≤ R.cells ∧ slots + ms ≤ R.slots) :
    va_Run p l e R s m args below meth c H locs cells slots mc ms g rest (Qc As.toArray) (free) := by
  obtain ⟨⟨hrc, hrs, hfr, hlo, hws, hcw⟩, hcode, hini, hy, hlen, hl, hstt⟩ := cw
  have hK : Back l R p e below s args y 3 8 (PreOf R mc ms Pc) (PostOf Qc mc ms free) := va_backW (hh := hh) (bytes := bytes) (maxL := maxL) (ret := ret) hM hp.1 hrc hrs hfr hlo hws hcw (fun a' U hW => word_at hW (Or.inl (by first | rfl | simp [Cond.onTables, Cond.keeps, Cond.steady])) hini)
  obtain ⟨hx, hb, hml, ho, -⟩ := S
  intro T hT X
  obtain ⟨v, vm₁, ⟨U', l2, c2, s2⟩, hW₁, X', ⟨g', mk, t, L, e1, e2, hq, h1, hL, h2, h3⟩, st⟩ := vx_callSW X hx (hh := hh) (bytes := bytes) (maxL := maxL) (ret := ret) ho hl hstt hini hcode hy hK hg (hsize.trans hml.symm) (argsL := As) (rest := rest) (fun sig h => hn.trans (hlen sig h)) hstack hW (by rw [hb]; exact hdg)
    (fun vm₁ hW₁ => ⟨hf.1, hf.2, hp.2 (T.setVm vm₁) hT hW₁⟩)
  dsimp only [Pt.U, Pt.locs, Pt.cells, Pt.slots] at X' e1 e2 h1 h2 h3 st
  subst h1; subst h2; subst h3
  exact ⟨v, (T.setVm vm₁).calling g' mk As.toArray, t, U', L, hT, X', hL, e1, e2, hq, st⟩
end VXS
section
variable {p : Program} {l : Launch} {e : Env} {R : Room} {s : State} {m : MethodId} {args : Array Value} {below : List Frame} {meth : Method} {c : Code} {H : Heap} {locs : List Loc} {cells slots : Nat}
/-- a frame seen from a rebased start, seen from the first start again -/
theorem vx_back9 {T S : State} {R' : Room} {k n : Nat} (X : Stand p l e R s m args below meth c T locs cells slots) (Y : Stand p l e R' ((T.setVm s.vm).setFrames (.invoking m args :: below)) m args below meth c T [] 0 0) (Z : Stand p l e R' ((T.setVm s.vm).setFrames (.invoking m args :: below)) m args below meth c S [] k n) :
    Stand p l e R s m args below meth c S locs (cells + k) (slots + n) := by
  have hW0 : s.WarmedH ((T.setVm s.vm).setFrames (.invoking m args :: below)).vm := State.WarmedH.refl s
  refine { admits := X.admits, cas := X.cas, clock := X.clock, frames := X.frames, room := X.room, hears := X.hears, method := X.method, code := X.code, here := Z.here, tail := Z.tail, warmed := State.WarmedH.trans hW0 Z.warmed, limits := Z.limits.trans (Y.limits.symm.trans X.limits), bytes := Z.bytes.trans (Y.bytes.symm.trans X.bytes), same := ?_ }
  obtain ⟨e1, e2⟩ := Z.same
  rw [State.setFrames_setFrames] at e1
  have h2 : (T.setVm s.vm).sameButNew (S.setVm s.vm) [] k n := ⟨e1, e2⟩
  have h3 := X.same.trans h2
  rw [List.append_nil] at h3
  exact h3
end
section VXK
variable {p : Program} {l : Launch} {e : Env} {R : Room} {s : State} {m₀ : MethodId} {args : Array Value} {below : List Frame} {meth : Method} {c : Code} {W : State} {locs : List Loc} {cells slots : Nat}
set_option maxHeartbeats 1000000 in
theorem vx_ctorMadeS (X : Stand p l e R s m₀ args below meth c W locs cells slots) (hexec : p.tables.exec = Jvm.exec) (htr : e.platform.stackTraces = false) {own cls : String} {names : List String} {ic : Nat}
    (hown : s.vm.findClass own = some m₀.cls) (hcls : Bundle.fit cls = true) (hnames : ∀ n ∈ names, Bundle.fit n = true)
    (h : ∀ a ∈ Bundle.ownAtoms own ic cls names, a.before args s = true)
    (hlocs : ∀ x ∈ locs, ∀ cell, s.heap[x.base]? = some cell → cell.vm.isStatics = false)
    {a : Addr} {cX : ClassId} {kX : Class} (hfoundX : s.vm.findClass cls = some cX) (hkX : s.vm.classes[cX]? = some kX) (hcell : W.heap[a]? = some (freshCell cX kX)) (hnew : s.heap.size ≤ a)
    {msg : Value} (hmsg : msg.isRef = true)
    {g : JFrame} (hg : g.method = m₀) (hsize : g.locals.size = c.maxLocals) {rest : List Value} (hstack : g.stack = msg :: .ref a :: .ref a :: rest)
    (hd6 : decode c.code g.pc = .ok (.invokespecial ic, 3))
    (hRframes : names.length + 3 < R.frames) (hRlocals : 2 * g.monitorRoom + ((Value.ref a :: rest).map fun v => v.category).sum + (13 * (names.length + 1) + 42) ≤ R.locals) :
    ∃ (V : State) (ce : Cell) (L : List Loc), Stand p l e R s m₀ args below meth c (V.setCell a ce) (locs ++ L) cells slots ∧ (∀ y ∈ L, y.base = a) ∧ a < V.heap.size ∧ ce.cls = cX ∧ ce.vm = .none ∧
      ∀ target, Steps p.tables e below ((V.setCell a ce).setTop { g with stack := .ref a :: rest, pc := g.pc + 3 }) target → Steps p.tables e below (W.setTop g) target := by
  have howns : e.platform.frameOwnsMonitors = true := by rw [X.admits.platform]
  have hfin : e.platform.finalization = false := by rw [X.admits.platform]
  have hpl : e.platform.magicAccessors = ({} : Platform).magicAccessors := by rw [X.admits.platform]
  have a' : ∀ x, x ∈ Bundle.ownAtoms own ic cls names → x.holds args s none s [] = true := fun x hx => h x hx
  obtain ⟨T, Z0, L, -, Y⟩ := ThrowableC.of_atoms (args := args) howns hfin hpl (fun x hx => h x (by simp [Bundle.ownAtoms, hx]))
  obtain ⟨Z, M, LZ, LM, hnZ⟩ := Init0T.ofS_atoms (args := args) hpl L Y (fun x hx => h x (by simp [Bundle.ownAtoms, hx]))
  obtain ⟨P1, Ps, hlen, L1, hL, hP1m, hlink1, hlink⟩ := Bundle.chainS (args := args) hpl hnZ names cls hcls hnames (fun x hx => h x (by simp [Bundle.ownAtoms, hx]))
  have hfound : s.vm.findClass cls = some P1.m.cls := findClass_of_methodNamed hP1m
  cases Option.some.inj (hfoundX.symm.trans hfound)
  obtain ⟨c1, kX', hc1, hk, hord, -, -, hn6⟩ := Cond.instantiable_spec (a' (.instantiable cls 6) (by simp [Bundle.ownAtoms]))
  cases Option.some.inj (hc1.symm.trans hfound)
  cases Option.some.inj (hkX.symm.trans hk)
  have hsel0 : selectMethod e.platform s.vm P1.m.cls T.fill0 = .method T.fill0 := by
    obtain ⟨c2, r2, m2, q1, q2, q3, q4, -⟩ := Cond.selects_spec (a' (.selects cls Bundle.tFill0 Bundle.tFill0) (by simp [Bundle.ownAtoms]))
    cases Option.some.inj (q1.symm.trans hfound)
    cases Option.some.inj (q2.symm.trans (State.methodFound?_of_named Y.fill0 (by decide)))
    cases Option.some.inj (q3.symm.trans Y.fill0)
    rw [Launch.admits_selectMethod X.admits]; exact q4
  have hselF : selectMethod e.platform s.vm P1.m.cls T.fill = .method T.fill := by
    obtain ⟨c2, r2, m2, q1, q2, q3, q4, -⟩ := Cond.selects_spec (a' (.selects cls Bundle.tFill Bundle.tFill) (by simp [Bundle.ownAtoms]))
    cases Option.some.inj (q1.symm.trans hfound)
    cases Option.some.inj (q2.symm.trans (State.methodFound?_of_named Y.fill (by decide)))
    cases Option.some.inj (q3.symm.trans Y.fill)
    rw [Launch.admits_selectMethod X.admits]; exact q4
  obtain ⟨cellS0, hcS0, hiss⟩ := Y.statics
  obtain ⟨u0, hu0⟩ := Cond.staticRefV Y.unassigned L.unassignedStatic L.statics hcS0 hiss (a' (.isRef (.static Bundle.tN "UNASSIGNED_STACK" Bundle.steD)) (by simp [Bundle.ownAtoms]))
  obtain ⟨sen, hsen⟩ := Cond.staticRefV Y.sentinel L.sentinelStatic L.statics hcS0 hiss (a' (.isRef (.static Bundle.tN "SUPPRESSED_SENTINEL" Bundle.listD)) (by simp [Bundle.ownAtoms]))
  obtain ⟨ci198, i198, fB, hk198, hg198, ha198, hsB, -, hnB, htB, hffB⟩ := Cond.ownField (t := .object "java/lang/Object") Y.found L.cls (by decide +kernel) (a' (.fieldLink Bundle.tN 198 Bundle.tN "backtrace" "Ljava/lang/Object;") (by simp [Bundle.ownAtoms])) (a' (.lays Bundle.tN Bundle.tN "backtrace" "Ljava/lang/Object;") (by simp [Bundle.ownAtoms])) e.platform hpl
  obtain ⟨cellS, hcS', heS, -, hkeep⟩ := X.same.2.2.2.2.2 T.aS cellS0 hcS0
  have hcellS : W.heap[T.aS]? = some cellS := hcS'
  have hout' : ∀ i, (⟨T.aS, i⟩ : Loc) ∉ locs := fun i hmem => by
    have := hlocs _ hmem cellS0 hcS0
    rw [hiss] at this; cases this
  have hknownS : cellS.vm ≠ .unknown := by
    rw [heS]; intro hu
    rw [show cellS0.vm = .unknown from hu] at hiss
    cases hiss
  have hneS : T.aS ≠ a := Nat.ne_of_lt (Nat.lt_of_lt_of_le (Array.getElem?_eq_some_iff.mp hcS0).1 hnew)
  obtain ⟨iM, hffM⟩ := Y.msg
  obtain ⟨tyC, dC, hdC, hdnC⟩ := Cond.laysAt hfound hk Y.cause (a' (.lays cls Bundle.tN "cause" "Ljava/lang/Throwable;") (by simp [Bundle.ownAtoms]))
  obtain ⟨tyS, dS, hdS, hdnS⟩ := Cond.laysAt hfound hk Y.stack (a' (.lays cls Bundle.tN "stackTrace" Bundle.steD) (by simp [Bundle.ownAtoms]))
  obtain ⟨tyP, dP, hdP, hdnP⟩ := Cond.laysAt hfound hk Y.supp (a' (.lays cls Bundle.tN "suppressedExceptions" Bundle.listD) (by simp [Bundle.ownAtoms]))
  obtain ⟨tyM, dM, hdM, hdnM⟩ := Cond.laysAt hfound hk hffM (a' (.lays cls Bundle.tN "detailMessage" "Ljava/lang/String;") (by simp [Bundle.ownAtoms]))
  obtain ⟨tyB, dB, hdB, hdnB⟩ := Cond.laysAt hfound hk hffB (a' (.lays cls Bundle.tN "backtrace" "Ljava/lang/Object;") (by simp [Bundle.ownAtoms]))
  have bC := Cond.laysApart hdB hdC hdnB hdnC (by rw [hnB, Y.causeName]; decide)
  have bS := Cond.laysApart hdB hdS hdnB hdnS (by rw [hnB, Y.stackName]; decide)
  have bP := Cond.laysApart hdB hdP hdnB hdnP (by rw [hnB, Y.suppName]; decide)
  have hskip : SkipFacts T e.platform s (fun u => u) u0 ((preparedCellV T.toThrowableT (freshCell P1.m.cls kX) a u0 sen).withEntry W.cur) :=
    ⟨{ ci198 := ci198, i198 := i198, fBack := fB }, ⟨hk198, hg198, ha198, hsB⟩, by
      have := fresh_default (c := P1.m.cls) tyB
      rw [htB] at this
      simpa [preparedCellV, Cell.setSlot, Cell.withEntry, Array.getElem?_setIfInBounds, bC, bS, bP, bC.symm, bS.symm, bP.symm, defaultValue] using this, fun _ _ => rfl⟩
  obtain ⟨tm, methC, cdC, kC, vm₁, hnC, -, -, -, -, -, -, -, hW₁, st1⟩ := Steps.initColdS (tb := p.tables) (e := e) (below := below) (s := s) (U := W) X.here hexec X.warmed hpl hown (t := Bundle.initS cls) rfl rfl (Bundle.fit_spec hcls).2
    (a' (.methodLink own ic (Bundle.initS cls)) (by simp [Bundle.ownAtoms])) (h (.instanceMethod (Bundle.initS cls)) (by cases names <;> simp [Bundle.ownAtoms, Bundle.chainSAtoms, Bundle.passSAtoms])) (bytes := Bundle.six) (maxL := 2) (h (.code (Bundle.initS cls) Bundle.six 2 none) (by cases names <;> simp [Bundle.ownAtoms, Bundle.chainSAtoms, Bundle.passSAtoms]))
    (f := g) hg (a := a) (msg := msg) (rest := .ref a :: rest) hstack hd6
  cases Option.some.inj (hnC.symm.trans hP1m)
  have X₁ := X.noted hW₁
  obtain ⟨vm₂, X₂, st2⟩ := X₁.ctorMessageOffV hexec (g := { g with stack := .ref a :: rest }) hg hsize T L Z LZ M LM (P1 :: Ps)
    (fun P hP => by rcases List.mem_cons.mp hP with rfl | hP; exact L1; exact hL P hP) ⟨hlink1, hlink⟩ (u0 := u0) (sen := sen) (self := a) hmsg (cell := freshCell P1.m.cls kX) (cellS := cellS)
    hcell (fun _ => by simp) (by simp) rfl rfl hsel0 hselF hcellS hneS hknownS (by rw [hkeep _ (hout' _)]; exact hu0) (by rw [hkeep _ (hout' _)]; exact hsen)
    (Takes.of_laid hk hord tyC (by rw [Y.causeType]; rfl)) (Takes.of_laid hk hord tyS (by rw [Y.stackType]; exact fits_refV_array _ u0)) (Takes.of_laid hk hord tyP (by rw [Y.suppType]; exact fits_refV_object _ sen))
    (Takes.of_laid hk hord tyM (by rw [Y.msgType]; exact fits_refV_object _ ⟨msg, hmsg⟩)) Y.objLocals hskip htr [] hd6
    (by simp only [List.length_cons, hlen]; omega) (by simp only [List.length_cons, hlen]; exact hRlocals)
  have hlt : a < ((W.setVm vm₁).setVm vm₂).heap.size := (Array.getElem?_eq_some_iff.mp hcell).1
  refine ⟨(W.setVm vm₁).setVm vm₂, _, _, X₂, fun y hy => ?_, hlt, rfl, rfl, fun target hwalk => st1 _ (fun acts => ?_)⟩
  · simp only [List.mem_cons, List.not_mem_nil, or_false] at hy
    rcases hy with rfl | rfl | rfl | rfl | rfl <;> rfl
  · rw [doInvoke_state]
    exact st2 _ hwalk
end VXK
section VXK2
variable {p : Program} {l : Launch} {e : Env} {R : Room} {s : State} {m : MethodId} {args : Array Value} {below : List Frame} {meth : Method} {c : Code} {H : Heap} {locs : List Loc} {cells slots : Nat} {Q : State → Prop}
variable {ls : Array Slot} {rest : List Value} {D : va_G} {cl : List vw_C} {tys : List (ClassId × FieldType)} {ws : va_W}
/-- 'new E("text")' that isn't thrown at once: the object goes on the stack -/
theorem vx_makeS {cc : ByteArray} {pc : Nat} (hexec : p.tables.exec = Jvm.exec) (hb : c.code = cc) (hl : l.stackTraces = false) {own cls text : String} {names : List String} {ik is ic sa ci : Nat} {A : Nat → Prop} {T0 : u_T}
    (hown : s.vm.findClass own = some m.cls) (hcls : Bundle.fit cls = true) (hnames : ∀ n ∈ names, Bundle.fit n = true)
    (hk : (Cond.classLink own ik cls).before args s = true) (hini : (Cond.initialized cls).before args s = true) (hstr : vk_R own is text sa s) (hat : ∀ w ∈ vx_atS own ic cls names, w.before args s = true)
    (hgood : ∀ w ∈ Cond.classLink own ik cls :: Cond.initialized cls :: vx_atS own ic cls names, vx_ot w = true)
    (hU : vx_Zq Bundle.tN "UNASSIGNED_STACK" Bundle.steD A s s.heap) (hN : vx_Zq Bundle.tN "SUPPRESSED_SENTINEL" Bundle.listD A s s.heap) (hS : va_S A s.heap H locs) (hsize : ls.size = c.maxLocals)
    (d0 : decode cc pc = .ok (.new ik, 3)) (d3 : decode cc (pc + 3) = .ok (.dup, 1)) (d4 : decode cc (pc + 4) = .ok (.ldc is, 2)) (d6 : decode cc (pc + 6) = .ok (.invokespecial ic, 3))
    (hK : va_K D cl tys s) (hc : cl[ci]? = some (cls, T0, 0))
    (hRframes : names.length + 3 < R.frames) (hRlocals : (rest.map fun v => v.category).sum + (13 * (names.length + 1) + 43) ≤ R.locals) (hRcells : cells + 1 ≤ R.cells) (hRslots : slots + 6 ≤ R.slots)
    (kk : ∀ H1 : Heap, H1.size = H.size + 1 → (∀ q : Nat, q < H.size → H1[q]? = H[q]?) → va_at D cl (H.size, .inr (ci, [])) H1 → va_S A s.heap H1 locs → W p l e R s m args below meth c H1 locs (cells + 1) (slots + 6) Q (F0 m (pc + 9) ls (.ref H.size :: rest))) :
    W p l e R s m args below meth c H locs cells slots Q (F0 m pc ls rest) := by
  intro T hT X
  subst hT
  have htr : e.platform.stackTraces = false := (show e.platform.stackTraces = l.stackTraces by rw [X.admits.platform]).trans hl
  have Y := vx_rebase X (R' := { frames := R.frames, locals := R.locals, cells := 1, slots := 6 }) (Nat.le_refl _) (Nat.le_refl _) hRcells hRslots
  obtain ⟨s', hA'⟩ : ∃ z, z = (T.setVm s.vm).setFrames (.invoking m args :: below) := ⟨_, rfl⟩
  rw [← hA'] at Y
  have hvm : s'.vm = s.vm := by rw [hA']; rfl
  have hhp : s'.heap = T.heap := by rw [hA']; rfl
  have hW0 : s.WarmedH s'.vm := by rw [hvm]; exact State.WarmedH.refl s
  have hat' : ∀ w ∈ vx_atS own ic cls names, w.before args s' = true := fun w hw => vx_ot_at hW0 hvm.symm (hgood w (List.mem_cons_of_mem _ (List.mem_cons_of_mem _ hw))) (hat w hw)
  have hk' : (Cond.classLink own ik cls).before args s' = true := vx_ot_at hW0 hvm.symm (hgood _ List.mem_cons_self) hk
  have hini' : (Cond.initialized cls).before args s' = true := vx_ot_at hW0 hvm.symm (hgood _ (List.mem_cons_of_mem _ List.mem_cons_self)) hini
  have hU' : vx_Zq Bundle.tN "UNASSIGNED_STACK" Bundle.steD A s' s'.heap := by rw [hhp]; exact vx_Zq.moved hW0.alike (hU.kept hS.2.1)
  have hN' : vx_Zq Bundle.tN "SUPPRESSED_SENTINEL" Bundle.listD A s' s'.heap := by rw [hhp]; exact vx_Zq.moved hW0.alike (hN.kept hS.2.1)
  have h : ∀ w ∈ Bundle.ownAtoms own ic cls names, w.before args s' = true := vx_own hat' (vx_isRefq hU'.1) (vx_isRefq hN'.1) hU'.2.word hN'.2.word
  have hown' : s'.vm.findClass own = some m.cls := by rw [hvm]; exact hown
  have hins : (Cond.instantiable cls 6).before args s' = true := h _ (by simp [Bundle.ownAtoms])
  obtain ⟨vm₁, cX, kX, hfX, hkX, -, -, X₁, st1⟩ := Y.newCold hexec (own := own) (C := cls) (index := ik) (n := 6) hown' hk' hins hini'
    (g := F0 m pc ls rest) rfl (by rw [hb]; exact d0) (Nat.le_refl _) (Nat.le_refl _)
  generalize hT1 : (T.setVm vm₁).pushCell { cls := cX, slots := kX.instanceTypes.map defaultValue, vm := .none } = T1 at X₁ st1
  have hcat : (Value.ref T.heap.size).category = 1 := rfl
  have hcellA : T1.heap[T.heap.size]? = some (freshCell cX kX) := by rw [← hT1]; exact State.heap_pushCell_size _ _
  have d3' : decode c.code (pc + 3) = .ok (.dup, 1) := by rw [hb]; exact d3
  have d4' : decode c.code (pc + 4) = .ok (.ldc is, 2) := by rw [hb]; exact d4
  have hstr' : vk_R own is text sa s' := vk_R.warm hW0 hstr
  obtain ⟨V, ce, L, Z, hL, hlt, hcl9, hvm9, st⟩ := vx_ctorMadeS X₁ hexec htr (own := own) (cls := cls) (names := names) (ic := ic) hown' hcls hnames h (fun x hx => nomatch hx) hfX hkX hcellA (by rw [hhp]; exact Nat.le_refl _) (msg := .ref sa) rfl
    (g := { method := m, pc := pc + 6, locals := ls, stack := .ref sa :: .ref T.heap.size :: .ref T.heap.size :: rest, locked := none }) rfl hsize (rest := rest) rfl
    (by rw [hb]; exact d6) hRframes (by simp only [List.map_cons, List.sum_cons, hcat]; omega)
  have Z0 := Stand.forget (locs := []) Z (fun y hy => by rw [hL y hy, hhp]; exact Nat.le_refl _)
  obtain ⟨f1, f2⟩ := vx_frame Z0.same
  rw [hhp] at f1 f2
  have hcid : ce.cls = D.1 ci := by
    rw [hcl9]
    have h1 := (hK.1 ci _ hc).2.1
    rw [hvm] at hfX
    exact Option.some.inj (hfX.symm.trans h1)
  have hh : (V.setCell T.heap.size ce).heap[T.heap.size]? = some ce := heapAt_setCell_self (s := V) ce hlt
  subst hA'
  have X5 := vx_back9 X Y Z0
  have X6 : Stand p l e R s m args below meth c (V.setCell T.heap.size ce) locs (cells + 1) (slots + 6) := { X5 with same := X5.same.mono (by omega) (by omega) }
  have hz9 : (V.setCell T.heap.size ce).heap.size = T.heap.size + 1 := by
    have q1 := X6.heapSize
    have q2 := Z0.heapSize
    have q3 : T.heap.size < (V.setCell T.heap.size ce).heap.size := (Array.getElem?_eq_some_iff.mp hh).1
    have q4 : ((T.setVm s.vm).setFrames (.invoking m args :: below)).heap.size = T.heap.size := rfl
    omega
  obtain ⟨t, a1, b1⟩ := kk (V.setCell T.heap.size ce).heap hz9 (fun q hq => f2 q hq (fun z hz => nomatch hz)) ⟨_, hc, ce, hh, hcid, hvm9, fun k hk => absurd hk (Nat.not_lt_zero k)⟩
    ⟨Nat.le_trans hS.1 f1, fun q h1 h2 => (f2 q (Nat.lt_of_lt_of_le h1 hS.1) (fun z hz => nomatch hz)).trans (hS.2.1 q h1 h2), hS.2.2⟩ _ rfl X6
  refine ⟨t, st1 _ ?_, b1⟩
  show Steps p.tables e below (T1.setTop { method := m, pc := pc + 3, locals := ls, stack := .ref T.heap.size :: rest, locked := none }) _
  jvm_step X₁.here [X₁.here.top, hexec, d3', Value.category]
  exact X₁.ldcString hexec (own := own) (text := text) (index := is) (a := sa) hown' hstr'.1 hstr'.2
    (g := { method := m, pc := pc + 4, locals := ls, stack := .ref T.heap.size :: .ref T.heap.size :: rest, locked := none }) rfl d4' _ (st _ a1)
/-- .. by a wide index -/
theorem vx_makeSW {cc : ByteArray} {pc : Nat} (hexec : p.tables.exec = Jvm.exec) (hb : c.code = cc) (hl : l.stackTraces = false) {own cls text : String} {names : List String} {ik is ic sa ci : Nat} {A : Nat → Prop} {T0 : u_T}
    (hown : s.vm.findClass own = some m.cls) (hcls : Bundle.fit cls = true) (hnames : ∀ n ∈ names, Bundle.fit n = true)
    (hk : (Cond.classLink own ik cls).before args s = true) (hini : (Cond.initialized cls).before args s = true) (hstr : vk_R own is text sa s) (hat : ∀ w ∈ vx_atS own ic cls names, w.before args s = true)
    (hgood : ∀ w ∈ Cond.classLink own ik cls :: Cond.initialized cls :: vx_atS own ic cls names, vx_ot w = true)
    (hU : vx_Zq Bundle.tN "UNASSIGNED_STACK" Bundle.steD A s s.heap) (hN : vx_Zq Bundle.tN "SUPPRESSED_SENTINEL" Bundle.listD A s s.heap) (hS : va_S A s.heap H locs) (hsize : ls.size = c.maxLocals)
    (d0 : decode cc pc = .ok (.new ik, 3)) (d3 : decode cc (pc + 3) = .ok (.dup, 1)) (d4 : decode cc (pc + 4) = .ok (.ldc_w is, 3)) (d6 : decode cc (pc + 7) = .ok (.invokespecial ic, 3))
    (hK : va_K D cl tys s) (hc : cl[ci]? = some (cls, T0, 0))
    (hRframes : names.length + 3 < R.frames) (hRlocals : (rest.map fun v => v.category).sum + (13 * (names.length + 1) + 43) ≤ R.locals) (hRcells : cells + 1 ≤ R.cells) (hRslots : slots + 6 ≤ R.slots)
    (kk : ∀ H1 : Heap, H1.size = H.size + 1 → (∀ q : Nat, q < H.size → H1[q]? = H[q]?) → va_at D cl (H.size, .inr (ci, [])) H1 → va_S A s.heap H1 locs → W p l e R s m args below meth c H1 locs (cells + 1) (slots + 6) Q (F0 m (pc + 10) ls (.ref H.size :: rest))) :
    W p l e R s m args below meth c H locs cells slots Q (F0 m pc ls rest) := by
  intro T hT X
  subst hT
  have htr : e.platform.stackTraces = false := (show e.platform.stackTraces = l.stackTraces by rw [X.admits.platform]).trans hl
  have Y := vx_rebase X (R' := { frames := R.frames, locals := R.locals, cells := 1, slots := 6 }) (Nat.le_refl _) (Nat.le_refl _) hRcells hRslots
  obtain ⟨s', hA'⟩ : ∃ z, z = (T.setVm s.vm).setFrames (.invoking m args :: below) := ⟨_, rfl⟩
  rw [← hA'] at Y
  have hvm : s'.vm = s.vm := by rw [hA']; rfl
  have hhp : s'.heap = T.heap := by rw [hA']; rfl
  have hW0 : s.WarmedH s'.vm := by rw [hvm]; exact State.WarmedH.refl s
  have hat' : ∀ w ∈ vx_atS own ic cls names, w.before args s' = true := fun w hw => vx_ot_at hW0 hvm.symm (hgood w (List.mem_cons_of_mem _ (List.mem_cons_of_mem _ hw))) (hat w hw)
  have hk' : (Cond.classLink own ik cls).before args s' = true := vx_ot_at hW0 hvm.symm (hgood _ List.mem_cons_self) hk
  have hini' : (Cond.initialized cls).before args s' = true := vx_ot_at hW0 hvm.symm (hgood _ (List.mem_cons_of_mem _ List.mem_cons_self)) hini
  have hU' : vx_Zq Bundle.tN "UNASSIGNED_STACK" Bundle.steD A s' s'.heap := by rw [hhp]; exact vx_Zq.moved hW0.alike (hU.kept hS.2.1)
  have hN' : vx_Zq Bundle.tN "SUPPRESSED_SENTINEL" Bundle.listD A s' s'.heap := by rw [hhp]; exact vx_Zq.moved hW0.alike (hN.kept hS.2.1)
  have h : ∀ w ∈ Bundle.ownAtoms own ic cls names, w.before args s' = true := vx_own hat' (vx_isRefq hU'.1) (vx_isRefq hN'.1) hU'.2.word hN'.2.word
  have hown' : s'.vm.findClass own = some m.cls := by rw [hvm]; exact hown
  have hins : (Cond.instantiable cls 6).before args s' = true := h _ (by simp [Bundle.ownAtoms])
  obtain ⟨vm₁, cX, kX, hfX, hkX, -, -, X₁, st1⟩ := Y.newCold hexec (own := own) (C := cls) (index := ik) (n := 6) hown' hk' hins hini'
    (g := F0 m pc ls rest) rfl (by rw [hb]; exact d0) (Nat.le_refl _) (Nat.le_refl _)
  generalize hT1 : (T.setVm vm₁).pushCell { cls := cX, slots := kX.instanceTypes.map defaultValue, vm := .none } = T1 at X₁ st1
  have hcat : (Value.ref T.heap.size).category = 1 := rfl
  have hcellA : T1.heap[T.heap.size]? = some (freshCell cX kX) := by rw [← hT1]; exact State.heap_pushCell_size _ _
  have d3' : decode c.code (pc + 3) = .ok (.dup, 1) := by rw [hb]; exact d3
  have d4' : decode c.code (pc + 4) = .ok (.ldc_w is, 3) := by rw [hb]; exact d4
  have hstr' : vk_R own is text sa s' := vk_R.warm hW0 hstr
  obtain ⟨V, ce, L, Z, hL, hlt, hcl9, hvm9, st⟩ := vx_ctorMadeS X₁ hexec htr (own := own) (cls := cls) (names := names) (ic := ic) hown' hcls hnames h (fun x hx => nomatch hx) hfX hkX hcellA (by rw [hhp]; exact Nat.le_refl _) (msg := .ref sa) rfl
    (g := { method := m, pc := pc + 7, locals := ls, stack := .ref sa :: .ref T.heap.size :: .ref T.heap.size :: rest, locked := none }) rfl hsize (rest := rest) rfl
    (by rw [hb]; exact d6) hRframes (by simp only [List.map_cons, List.sum_cons, hcat]; omega)
  have Z0 := Stand.forget (locs := []) Z (fun y hy => by rw [hL y hy, hhp]; exact Nat.le_refl _)
  obtain ⟨f1, f2⟩ := vx_frame Z0.same
  rw [hhp] at f1 f2
  have hcid : ce.cls = D.1 ci := by
    rw [hcl9]
    have h1 := (hK.1 ci _ hc).2.1
    rw [hvm] at hfX
    exact Option.some.inj (hfX.symm.trans h1)
  have hh : (V.setCell T.heap.size ce).heap[T.heap.size]? = some ce := heapAt_setCell_self (s := V) ce hlt
  subst hA'
  have X5 := vx_back9 X Y Z0
  have X6 : Stand p l e R s m args below meth c (V.setCell T.heap.size ce) locs (cells + 1) (slots + 6) := { X5 with same := X5.same.mono (by omega) (by omega) }
  have hz9 : (V.setCell T.heap.size ce).heap.size = T.heap.size + 1 := by
    have q1 := X6.heapSize
    have q2 := Z0.heapSize
    have q3 : T.heap.size < (V.setCell T.heap.size ce).heap.size := (Array.getElem?_eq_some_iff.mp hh).1
    have q4 : ((T.setVm s.vm).setFrames (.invoking m args :: below)).heap.size = T.heap.size := rfl
    omega
  obtain ⟨t, a1, b1⟩ := kk (V.setCell T.heap.size ce).heap hz9 (fun q hq => f2 q hq (fun z hz => nomatch hz)) ⟨_, hc, ce, hh, hcid, hvm9, fun k hk => absurd hk (Nat.not_lt_zero k)⟩
    ⟨Nat.le_trans hS.1 f1, fun q h1 h2 => (f2 q (Nat.lt_of_lt_of_le h1 hS.1) (fun z hz => nomatch hz)).trans (hS.2.1 q h1 h2), hS.2.2⟩ _ rfl X6
  refine ⟨t, st1 _ ?_, b1⟩
  show Steps p.tables e below (T1.setTop { method := m, pc := pc + 3, locals := ls, stack := .ref T.heap.size :: rest, locked := none }) _
  jvm_step X₁.here [X₁.here.top, hexec, d3', Value.category]
  exact X₁.ldcStringW hexec (own := own) (text := text) (index := is) (a := sa) hown' hstr'.1 hstr'.2
    (g := { method := m, pc := pc + 4, locals := ls, stack := .ref T.heap.size :: .ref T.heap.size :: rest, locked := none }) rfl d4' _ (st _ a1)
/-- 'throw x' of an object that was made before -/
theorem vx_athrow {cc : ByteArray} {pc : Nat} (hexec : p.tables.exec = Jvm.exec) (hb : c.code = cc) {q : Addr} (hdg : decode cc pc = .ok (.athrow, 1)) (k : vx_W p l e R s m args below meth c H locs cells slots Q (F0 m pc ls rest) q) : W p l e R s m args below meth c H locs cells slots Q (F0 m pc ls (.ref q :: rest)) := by
  intro T hT X
  obtain ⟨t, st, hq⟩ := k T hT X
  refine ⟨t, ?_, hq⟩
  have hdg' : decode c.code pc = .ok (.athrow, 1) := by rw [hb]; exact hdg
  jvm_step X.here [X.here.top, hexec, hdg', athrow.wp_sem]
  exact st
end VXK2
theorem vx_MetH {l : Launch} {y : MethodName} {ws ws' : List Cond} {rm : Room} {Pc : Array Value → State → Prop} {Qc : Array Value → State → Outcome → State → Prop} {mc ms : Nat} {free : Addr → Prop} {cc : ByteArray} {maxL : Nat} {ret : Option FieldType} {hh : List (Nat × Nat × Nat × Nat)}
    (hy : plainName y.cls = true) (hw : ws = Cond.codeWith y cc maxL ret hh :: ws')
    (body : ∀ p e s m args below meth c s₁, BodyLoose p l y (headSpec ws rm) cc maxL ret e s m args below meth c s₁ → c.maxLocals = maxL → Pc args s →
      W p l e (headSpec ws rm).room s m args below meth c s.heap [] 0 0 (MQ below Qc args s mc ms free) (entryFrame m args maxL)) : Met l y ws rm Pc Qc mc ms free := by
  refine MetFree.of_bodyS (code := cc) (maxLocals := maxL) (ret := ret) hy ?_ ?_
  · intro args s m h hn
    obtain ⟨m9, meth, c, hn9, h1, h2, h3, h4, -, h5, h6, -⟩ := Cond.codeWith_spec (atoms_spec (ws := ws) h _ (by rw [hw]; exact List.mem_cons_self))
    cases hn.symm.trans hn9
    exact ⟨meth, c, h1, h2, h3, h4, h5, h6⟩
  · intro p e s m args below meth c s₁ B hml hP _
    have hh0 : s₁.heap = s.heap := by rw [B.state]; rfl
    obtain ⟨t, a1, o, b1, b2, b3⟩ := body p e s m args below meth c s₁ B hml hP s₁ hh0 (Stand.of_body B)
    exact ⟨t, o, a1, b1, b2, ⟨b3.1, b3.2⟩⟩
end
section
-- arrays over arrays: the word lasts
theorem mi_AOA {ty : FieldType} {u U : State} (hvm : u.vm.Alike U.vm) (h : (Cond.arrayOver (.array ty)).before #[] u = true) : (Cond.arrayOver (.array ty)).before #[] U = true := by
  have e := Cond.arrayOver_setVmC (args := #[]) (s := u) hvm (.array ty)
  rw [h] at e
  exact e
end
section
/-! A MACHINE OVER NUMBERS: cells at 0, 1, 2 .. (the first E of them stand outside: rows of ints that nobody writes), states as plain values; mi_W is W over such a state, mi_S a contract of a method over it. One row an instruction, for every method alike: what a method does is then said, and proved, of plain values alone. -/
abbrev mi_C : Type := (Nat × vp_A) ⊕ (Nat × List Value)
abbrev mi_H : Type := Nat × (Nat → mi_C)
abbrev mi_L : Type := List (Nat × Value)
abbrev mi_M : Type := MethodName × ByteArray × Nat × Option FieldType
/-- its kinds of objects, the words that all methods rest on, the words that bear a nest, its methods, its kinds of arrays, how many cells stand outside (the last one of any kind), the statics that name one of these, its tables of handlers, what else stands outside -/
abbrev mi_P : Type := List vw_C × List Cond × List Cond × (Nat → mi_M) × List FieldType × Nat × List (String × String × String × Nat) × (Nat → List (Nat × Nat × Nat × Nat)) × (Nat → State → Heap → Prop)
abbrev mi_X : Type := Nat → Nat × (Nat → Int32)
def mi_V (ad : Nat → Nat) (v : Value) : Value := match v with
  | .ref a => .ref (ad a)
  | w => w
def mi_z (ad : Nat → Nat) (z : (Nat → Int32) ⊕ (Nat → Int64) ⊕ (Nat → UInt32) ⊕ (Nat → UInt64) ⊕ (Nat → Option Nat)) : (Nat → Int32) ⊕ (Nat → Int64) ⊕ (Nat → UInt32) ⊕ (Nat → UInt64) ⊕ (Nat → Option Nat) := match z with
  | .inl f => .inl f
  | .inr (.inl f) => .inr (.inl f)
  | .inr (.inr (.inl f)) => .inr (.inr (.inl f))
  | .inr (.inr (.inr (.inl f))) => .inr (.inr (.inr (.inl f)))
  | .inr (.inr (.inr (.inr f))) => .inr (.inr (.inr (.inr (fun i => (f i).map ad))))
def mi_e (dA : Nat → ClassId) (ad : Nat → Nat) (c : mi_C) : va_E := match c with
  | .inl x => .inl (dA x.1, x.2.1, mi_z ad x.2.2)
  | .inr o => .inr (o.1, o.2.map (mi_V ad))
def mi_ad (E b0 : Nat) (xa : Nat → Nat) (a : Nat) : Nat := if a < E then xa a else b0 + (a - E)
def mi_w (dA : Nat → ClassId) (E b0 : Nat) (xa : Nat → Nat) (h : mi_H) : va_W := (List.range' E (h.1 - E)).map (fun a => (mi_ad E b0 xa a, mi_e dA (mi_ad E b0 xa) (h.2 a)))
def mi_tys (P : mi_P) (dA : Nat → ClassId) : List (ClassId × FieldType) := P.2.2.2.2.1.zipIdx.map (fun q => (dA q.2, q.1))
/-- the heap holds the cells -/
def mi_R (P : mi_P) (D : va_G) (dA : Nat → ClassId) (b0 : Nat) (xa : Nat → Nat) (H : Heap) (h : mi_H) : Prop :=
  P.2.2.2.2.2.1 ≤ h.1 ∧ H.size = b0 + (h.1 - P.2.2.2.2.2.1) ∧ va_P D P.1 (mi_w dA P.2.2.2.2.2.1 b0 xa h) H
/-- what stands outside, and what the tables tell -/
def mi_U (P : mi_P) (X : mi_X) (D : va_G) (dA : Nat → ClassId) (b0 : Nat) (xa : Nat → Nat) (U : State) : Prop :=
  b0 ≤ U.heap.size ∧ va_K D P.1 (mi_tys P dA) U ∧ (∀ a, a + 1 < P.2.2.2.2.2.1 → va_T .int (xa a) (X a).1 (fun j => .int ((X a).2 j)) (fun q => b0 ≤ q) U U.heap) ∧
  ((∀ q ∈ P.2.2.2.2.2.2.1, q.2.2.2 < P.2.2.2.2.2.1 ∧ va_Z q.1 q.2.1 q.2.2.1 (.ref (xa q.2.2.2)) (fun q => b0 ≤ q) U U.heap) ∧ P.2.2.2.2.2.2.2.2 b0 U U.heap) ∧ ∀ w ∈ P.2.2.1, va_Nw w U
/-- the words that bear a nest, and what else stands outside, last -/
def mi_nw (P : mi_P) : Prop := (∀ w ∈ P.2.2.1, (∃ a i b n d h, w = .fieldLinkNest a i b n d h) ∨ (∃ a i x h, w = .methodLinkNest a i x h) ∨ (∃ C, w = .arrayOver (.object C)) ∨ ∃ t, w = .arrayOver (.array t)) ∧ (∀ (b0 : Nat) (s U : State) (H : Heap), s.WarmedH U.vm → P.2.2.2.2.2.2.2.2 b0 s H → P.2.2.2.2.2.2.2.2 b0 U H) ∧ ∀ (b0 : Nat) (U : State) (H H1 : Heap), (∀ a : Nat, a < H.size → ¬ b0 ≤ a → H1[a]? = H[a]?) → P.2.2.2.2.2.2.2.2 b0 U H → P.2.2.2.2.2.2.2.2 b0 U H1
/-- what stays all through a body of the method k at the depth d -/
def mi_F (P : mi_P) (X : mi_X) (k d : Nat) (p : Program) (l : Launch) (R : Room) (s : State) (m : MethodId) (args : Array Value) (meth : Method) (c : Code) (D : va_G) (dA : Nat → ClassId) (b0 : Nat) (xa : Nat → Nat) : Prop :=
  p.tables.exec = Jvm.exec ∧ c.code = (P.2.2.2.1 k).2.1 ∧ c.maxLocals = (P.2.2.2.1 k).2.2.1 ∧ s.vm.findClass (P.2.2.2.1 k).1.cls = some m.cls ∧ (∀ w ∈ P.2.1, w.before args s = true) ∧ (((P.2.2.2.1 k).1.name = "<init>" → meth.name = "<init>") ∧ c.exceptionTable.toList = tableOf (P.2.2.2.2.2.2.2.1 k) ∧ l.stackTraces = false) ∧
  (∀ w ∈ P.2.1, (w.onTables && w.keeps) = true ∨ ∃ ty, w = .arrayClass ty) ∧ mi_nw P ∧ d ≤ R.frames ∧ 32 * d ≤ R.locals ∧ mi_U P X D dA b0 xa s
def mi_rt (cc : ByteArray) (pc : Nat) (ret : Option FieldType) (r : Option Value) : Prop := match r with
  | none => decode cc pc = .ok (.return_, 1) ∧ ret = none
  | some (.int v) => decode cc pc = .ok (.ireturn, 1) ∧ ∃ ty, ret = some ty ∧ narrow ty (.int v) = .int v
  | some (.long _) => decode cc pc = .ok (.lreturn, 1) ∧ ret = some .long
  | some (.float _) => decode cc pc = .ok (.freturn, 1) ∧ ret = some .float
  | some (.double _) => decode cc pc = .ok (.dreturn, 1) ∧ ret = some .double
  | some .null => decode cc pc = .ok (.areturn, 1) ∧ ∃ rt, ret = some rt ∧ ((∃ n, rt = .object n) ∨ ∃ t, rt = .array t)
  | some (.ref _) => decode cc pc = .ok (.areturn, 1) ∧ ∃ rt, ret = some rt ∧ ((∃ n, rt = .object n) ∨ ∃ t, rt = .array t)
  | some (.retAddr _) => False
def mi_lv (ad : Nat → Nat) (lv : mi_L) : mi_L := lv.map (fun q => (q.1, mi_V ad q.2))
/-- the frame g, with the thing at q thrown over it -/
def mi_T (p : Program) (l : Launch) (e : Env) (R : Room) (s : State) (m : MethodId) (args : Array Value) (below : List Frame) (meth : Method) (c : Code) (H : Heap) (locs : List Loc) (cells slots : Nat) (Q : State → Prop) (g : JFrame) (q : Addr) : Prop :=
  ∀ T : State, T.heap = H → Stand p l e R s m args below meth c T locs cells slots → ∃ t, Steps p.tables e below ((T.setTop g).pushFrame (.throwing q)) t ∧ Q t
/-- W over plain values: from the place pc, with locals lv, the operand stack st and the cells h, room for mc cells of ms slots: a return with Q comes, or the throw of a thing of the kind ce at a, with QX -/
def mi_WX (QX : Nat → Nat → mi_H → Prop) (P : mi_P) (X : mi_X) (k d mc ms pc : Nat) (lv : mi_L) (st : List Value) (h : mi_H) (Q : Option Value → mi_H → Prop) : Prop :=
  ∀ (p : Program) (l : Launch) (e : Env) (R : Room) (s : State) (m : MethodId) (args : Array Value) (below : List Frame) (meth : Method) (c : Code) (H : Heap) (locs : List Loc) (cells slots : Nat) (Z : State → Prop) (D : va_G) (dA : Nat → ClassId) (b0 : Nat) (xa : Nat → Nat) (ls : Array Slot),
    mi_F P X k d p l R s m args meth c D dA b0 xa → va_S (fun q => b0 ≤ q) s.heap H locs → cells + mc ≤ R.cells → slots + ms ≤ R.slots → mi_R P D dA b0 xa H h → lv_has ls (P.2.2.2.1 k).2.2.1 (mi_lv (mi_ad P.2.2.2.2.2.1 b0 xa) lv) →
    ((∀ (H1 : Heap) (locs1 : List Loc) (cells1 slots1 : Nat) (h1 : mi_H) (r : Option Value) (pc1 : Nat) (ls1 : Array Slot), va_S (fun q => b0 ≤ q) s.heap H1 locs1 → cells1 ≤ R.cells → slots1 ≤ R.slots → mi_R P D dA b0 xa H1 h1 → Q r h1 → mi_rt (P.2.2.2.1 k).2.1 pc1 (P.2.2.2.1 k).2.2.2 r →
      W p l e R s m args below meth c H1 locs1 cells1 slots1 Z (F0 m pc1 ls1 (r.toList.map (mi_V (mi_ad P.2.2.2.2.2.1 b0 xa))))) ∧
    (∀ (H1 : Heap) (locs1 : List Loc) (cells1 slots1 : Nat) (h1 : mi_H) (ce a pc1 : Nat) (ls1 : Array Slot) (st1 : List Value), va_S (fun q => b0 ≤ q) s.heap H1 locs1 → cells1 ≤ R.cells → slots1 ≤ R.slots → mi_R P D dA b0 xa H1 h1 → (P.2.2.2.2.2.1 ≤ a ∧ a < h1.1 ∧ h1.2 a = .inr (ce, [])) → QX ce a h1 → (∀ x ∈ c.exceptionTable.toList, covers x pc1 = false) →
      mi_T p l e R s m args below meth c H1 locs1 cells1 slots1 Z (F0 m pc1 ls1 st1) (mi_ad P.2.2.2.2.2.1 b0 xa a))) →
    W p l e R s m args below meth c H locs cells slots Z (F0 m pc ls (st.map (mi_V (mi_ad P.2.2.2.2.2.1 b0 xa))))
/-- .. that throws nothing -/
abbrev mi_W (P : mi_P) (X : mi_X) (k d mc ms pc : Nat) (lv : mi_L) (st : List Value) (h : mi_H) (Q : Option Value → mi_H → Prop) : Prop := mi_WX (fun _ _ _ => False) P X k d mc ms pc lv st h Q
/-- the contract of the method k over plain values: from these arguments and cells it returns, with Q -/
def mi_S (P : mi_P) (X : mi_X) (k d : Nat) (avs : List Value) (h : mi_H) (mc ms : Nat) (Q : Option Value → mi_H → Prop) : Prop :=
  ∀ (l : Launch), l.stackTraces = false → ∀ (D : va_G) (dA : Nat → ClassId) (b0 : Nat) (xa : Nat → Nat), Met l (P.2.2.2.1 k).1 (.code (P.2.2.2.1 k).1 (P.2.2.2.1 k).2.1 (P.2.2.2.1 k).2.2.1 (P.2.2.2.1 k).2.2.2 :: P.2.1) { frames := d, cells := mc, slots := ms, locals := 32 * d }
    (va_Pc (avs.map (mi_V (mi_ad P.2.2.2.2.2.1 b0 xa))) (fun U => mi_U P X D dA b0 xa U ∧ mi_R P D dA b0 xa U.heap h))
    (fun _ st o t => (∃ (r : Option Value) (h1 : mi_H), o = .returned (r.map (mi_V (mi_ad P.2.2.2.2.2.1 b0 xa))) ∧ Q r h1 ∧ mi_R P D dA b0 xa t.heap h1) ∧ va_F (fun q => b0 ≤ q) st t) mc ms (fun q => b0 ≤ q)
/-- a program in order: its words are of the lasting kinds -/
def mi_ok (P : mi_P) : Prop := (∀ w ∈ P.2.1, (w.onTables && w.keeps) = true ∨ ∃ ty, w = .arrayClass ty) ∧ mi_nw P
-- the cells as a list
theorem mi_w_at {dA : Nat → ClassId} {E b0 : Nat} {xa : Nat → Nat} {h : mi_H} {a : Nat} (h1 : E ≤ a) (h2 : a < h.1) : (mi_w dA E b0 xa h)[a - E]? = some (mi_ad E b0 xa a, mi_e dA (mi_ad E b0 xa) (h.2 a)) := by
  unfold mi_w
  rw [List.getElem?_map, List.getElem?_range' (by omega)]
  simp only [Option.map_some, Nat.one_mul]
  rw [show E + (a - E) = a by omega]
theorem mi_w_in {dA : Nat → ClassId} {E b0 : Nat} {xa : Nat → Nat} {h : mi_H} {j : Nat} {q : Nat × va_E} (hq : (mi_w dA E b0 xa h)[j]? = some q) : E + j < h.1 ∧ q = (mi_ad E b0 xa (E + j), mi_e dA (mi_ad E b0 xa) (h.2 (E + j))) := by
  have hl : j < h.1 - E := by
    have := (List.getElem?_eq_some_iff.mp hq).1
    unfold mi_w at this
    rwa [List.length_map, List.length_range'] at this
  have h1 := mi_w_at (dA := dA) (E := E) (b0 := b0) (xa := xa) (h := h) (a := E + j) (by omega) (by omega)
  rw [show E + j - E = j by omega, hq] at h1
  exact ⟨by omega, Option.some.inj h1⟩
theorem mi_w_D {dA : Nat → ClassId} {E b0 : Nat} {xa : Nat → Nat} {h : mi_H} : va_D (fun q => b0 ≤ q) (mi_w dA E b0 xa h) := by
  refine ⟨fun i j p q hp hq e => ?_, fun k q hq => ?_⟩
  · rw [(mi_w_in hp).2, (mi_w_in hq).2] at e
    have e : mi_ad E b0 xa (E + i) = mi_ad E b0 xa (E + j) := e
    unfold mi_ad at e
    rw [if_neg (by omega), if_neg (by omega)] at e
    omega
  · rw [(mi_w_in hq).2]
    show b0 ≤ mi_ad E b0 xa (E + k)
    unfold mi_ad
    rw [if_neg (by omega)]
    omega
theorem mi_w_set {dA : Nat → ClassId} {E b0 : Nat} {xa : Nat → Nat} {h : mi_H} {a : Nat} (h1 : E ≤ a) (h2 : a < h.1) (c : mi_C) : (mi_w dA E b0 xa h).set (a - E) (mi_ad E b0 xa a, mi_e dA (mi_ad E b0 xa) c) = mi_w dA E b0 xa (h.1, va_up h.2 a c) := by
  apply List.ext_getElem?
  intro j
  by_cases hj : j = a - E
  · subst hj
    have hl : a - E < (mi_w dA E b0 xa h).length := (List.getElem?_eq_some_iff.mp (mi_w_at h1 h2)).1
    rw [List.getElem?_set_self hl, mi_w_at (h := (h.1, va_up h.2 a c)) h1 h2]
    show _ = some (_, mi_e dA _ (va_up h.2 a c a))
    rw [show va_up h.2 a c a = c from if_pos rfl]
  · rw [List.getElem?_set_ne (Ne.symm hj)]
    unfold mi_w
    rw [List.getElem?_map, List.getElem?_map]
    by_cases hl : j < h.1 - E
    · rw [List.getElem?_range' hl, Option.map_some, Option.map_some]
      show some (_, mi_e dA _ (h.2 (E + 1 * j))) = some (_, mi_e dA _ (va_up h.2 a c (E + 1 * j)))
      rw [show va_up h.2 a c (E + 1 * j) = h.2 (E + 1 * j) from if_neg (by omega)]
    · rw [List.getElem?_eq_none (by rw [List.length_range']; omega)]
      rfl
theorem mi_w_push {dA : Nat → ClassId} {E b0 : Nat} {xa : Nat → Nat} {h : mi_H} (h1 : E ≤ h.1) (c : mi_C) : mi_w dA E b0 xa h ++ [(b0 + (h.1 - E), mi_e dA (mi_ad E b0 xa) c)] = mi_w dA E b0 xa (h.1 + 1, va_up h.2 h.1 c) := by
  unfold mi_w
  show _ = (List.range' E (h.1 + 1 - E)).map (fun a => (mi_ad E b0 xa a, mi_e dA (mi_ad E b0 xa) (va_up h.2 h.1 c a)))
  rw [show h.1 + 1 - E = (h.1 - E) + 1 by omega, List.range'_1_concat, List.map_append]
  congr 1
  · apply List.map_congr_left
    intro a ha
    have := List.mem_range'_1.mp ha
    rw [show va_up h.2 h.1 c a = h.2 a from if_neg (by omega)]
  · rw [show E + (h.1 - E) = h.1 by omega]
    show [_] = [(mi_ad E b0 xa h.1, mi_e dA (mi_ad E b0 xa) (va_up h.2 h.1 c h.1))]
    rw [show va_up h.2 h.1 c h.1 = c from if_pos rfl, show mi_ad E b0 xa h.1 = b0 + (h.1 - E) by unfold mi_ad; rw [if_neg (by omega)]]
end
section
-- from a walk to a contract
theorem mi_V_cat (ad : Nat → Nat) (v : Value) : (mi_V ad v).category = v.category := by cases v <;> rfl
theorem mi_args (ad : Nat → Nat) : ∀ (i : Nat) (vs : List Value), lv_args i (vs.map (mi_V ad)) = mi_lv ad (lv_args i vs)
  | _, [] => rfl
  | i, v :: vs => by
    show (i, mi_V ad v) :: lv_args (if (mi_V ad v).category = 2 then i + 2 else i + 1) (vs.map (mi_V ad)) = (i, mi_V ad v) :: mi_lv ad (lv_args (if v.category = 2 then i + 2 else i + 1) vs)
    rw [mi_V_cat, mi_args ad]
theorem mi_sl (ad : Nat → Nat) : ∀ vs : List Value, (lg_sl (vs.map (mi_V ad))).length = (lg_sl vs).length
  | [] => rfl
  | v :: vs => by
    have h := mi_sl ad vs
    have e1 : (lg_sl ((v :: vs).map (mi_V ad))).length = (if v.category = 2 then 2 else 1) + (lg_sl (vs.map (mi_V ad))).length := by cases v <;> simp [lg_sl, mi_V, Value.category] <;> omega
    have e2 : (lg_sl (v :: vs)).length = (if v.category = 2 then 2 else 1) + (lg_sl vs).length := by cases v <;> simp [lg_sl, Value.category] <;> omega
    rw [e1, e2, h]
set_option maxHeartbeats 4000000 in
theorem mi_S.of {P : mi_P} {X : mi_X} {k d : Nat} {avs : List Value} {h : mi_H} {mc ms : Nat} {Q : Option Value → mi_H → Prop} (hok : mi_ok P) (hht : P.2.2.2.2.2.2.2.1 k = []) (hy : plainName (P.2.2.2.1 k).1.cls = true) (hn : (lg_sl avs).length ≤ (P.2.2.2.1 k).2.2.1)
    (body : mi_W P X k d mc ms 0 (lv_args 0 avs) [] h Q) : mi_S P X k d avs h mc ms Q := by
  intro l hls D dA b0 xa
  refine Met.ofW (cc := (P.2.2.2.1 k).2.1) (maxL := (P.2.2.2.1 k).2.2.1) (ret := (P.2.2.2.1 k).2.2.2) hy rfl ?_
  intro p e s m args below meth c s₁ B hml hv
  obtain ⟨rfl, hU, hR⟩ := hv
  have hts := atoms_spec (ws := (.code (P.2.2.2.1 k).1 (P.2.2.2.1 k).2.1 (P.2.2.2.1 k).2.2.1 (P.2.2.2.1 k).2.2.2 :: P.2.1)) B.pre
  have hx := B.exec
  have hb := B.bytes
  have hr := B.returns
  have hlocks := B.notSynchronized
  have htab : c.exceptionTable.toList = tableOf (P.2.2.2.2.2.2.2.1 k) := by
    obtain ⟨meth9, c9, h1, h2, -, -, -, -, h7, -⟩ := Cond.code_spec B.named (hts _ List.mem_cons_self)
    cases Option.some.inj (h1.symm.trans B.method)
    cases Option.some.inj (h2.symm.trans (Stand.of_body B).code)
    rw [hht, Array.isEmpty_iff.mp h7]
    rfl
  have hS : va_S (fun q => b0 ≤ q) s.heap s.heap [] := va_S.rf
  have hl := lv_entry (avs.map (mi_V (mi_ad P.2.2.2.2.2.1 b0 xa))) (n := (P.2.2.2.1 k).2.2.1) (by rw [mi_sl]; exact hn)
  rw [mi_args] at hl
  rw [lg_entry_eq]
  generalize (lg_sl (avs.map (mi_V (mi_ad P.2.2.2.2.2.1 b0 xa))) ++ List.replicate ((P.2.2.2.1 k).2.2.1 - (lg_sl (avs.map (mi_V (mi_ad P.2.2.2.2.2.1 b0 xa)))).length) Slot.unset).toArray = ls at hl ⊢
  refine body p l e _ s m _ below meth c s.heap [] 0 0 _ D dA b0 xa ls ⟨hx, hb, hml, findClass_of_methodNamed B.named, fun w hw => hts w (List.mem_cons_of_mem _ hw), ⟨fun q => (name_of_methodNamed B.named B.method).1.trans q, htab, hls⟩, hok.1, hok.2, Nat.le_refl _, Nat.le_refl _, hU⟩ hS (by rw [Nat.zero_add]; exact Nat.le_refl _) (by rw [Nat.zero_add]; exact Nat.le_refl _) hR hl ⟨?_, fun _ _ _ _ _ _ _ _ _ _ _ _ _ _ _ hqx _ => hqx.elim⟩
  intro H1 locs1 cells1 slots1 h1 r pc1 ls1 hS1 hc1 hs1 hR1 hQ hrt
  refine W.widen (k := mc) (n := ms) hc1 hs1 ?_
  have hq : ∀ t : State, t.heap = H1 → s.WarmedH t.vm → ((∃ (r' : Option Value) (h1 : mi_H), Outcome.returned (r.map (mi_V (mi_ad P.2.2.2.2.2.1 b0 xa))) = .returned (r'.map (mi_V (mi_ad P.2.2.2.2.2.1 b0 xa))) ∧ Q r' h1 ∧ mi_R P D dA b0 xa t.heap h1) ∧ va_F (fun q => b0 ≤ q) s t) := fun t ht _ => ⟨⟨r, h1, rfl, hQ, by rw [ht]; exact hR1⟩, hS1.F ht⟩
  cases r with
  | none => exact W.vret hx hb (by rw [hr]; exact hrt.2) hq hS1.2.2 hrt.1
  | some v =>
    cases v with
    | int v =>
      obtain ⟨g1, ty, g2, g3⟩ := hrt
      exact W.zret (ty := ty) hx hb (by rw [hr]; exact g2) g3 hq hS1.2.2 g1
    | long v => exact W.lret hx hb (by rw [hr]; exact hrt.2) hq hS1.2.2 hrt.1
    | float v => exact W.fret hx hb (by rw [hr]; exact hrt.2) hq hS1.2.2 hrt.1
    | double v => exact W.dret hx hb (by rw [hr]; exact hrt.2) hq hS1.2.2 hrt.1
    | null =>
      obtain ⟨g1, rt, g2, g3⟩ := hrt
      exact W.aret (rt := rt) hx hb (by rw [hr]; exact g2) g3 (Or.inl rfl) hq hS1.2.2 g1
    | ref a =>
      obtain ⟨g1, rt, g2, g3⟩ := hrt
      exact W.aret (rt := rt) hx hb (by rw [hr]; exact g2) g3 (Or.inr ⟨_, rfl⟩) hq hS1.2.2 g1
    | retAddr pc => exact absurd hrt id
-- a return
theorem mi_ret {QX : Nat → Nat → mi_H → Prop} {P : mi_P} {X : mi_X} {k d mc ms pc : Nat} {lv : mi_L} {h : mi_H} {Q : Option Value → mi_H → Prop} (r : Option Value) (hrt : mi_rt (P.2.2.2.1 k).2.1 pc (P.2.2.2.1 k).2.2.2 r) (hQ : Q r h) : mi_WX QX P X k d mc ms pc lv r.toList h Q := by
  intro p l e R s m args below meth c H locs cells slots Z D dA b0 xa ls F hS hc hs hR hl hZ
  have := hZ.1 H locs cells slots h r pc ls hS (by omega) (by omega) hR hQ hrt
  cases r <;> exact this
-- the rest of a walk
theorem mi_WX.mono {QX : Nat → Nat → mi_H → Prop} {P : mi_P} {X : mi_X} {k d mc ms pc : Nat} {lv : mi_L} {st : List Value} {h : mi_H} {Q Q' : Option Value → mi_H → Prop} (hq : ∀ r h', Q r h' → Q' r h') (w : mi_WX QX P X k d mc ms pc lv st h Q) : mi_WX QX P X k d mc ms pc lv st h Q' := by
  intro p l e R s m args below meth c H locs cells slots Z D dA b0 xa ls F hS hc hs hR hl hZ
  exact w p l e R s m args below meth c H locs cells slots Z D dA b0 xa ls F hS hc hs hR hl ⟨fun H1 locs1 cells1 slots1 h1 r pc1 ls1 a1 a2 a3 a4 a5 a6 => hZ.1 H1 locs1 cells1 slots1 h1 r pc1 ls1 a1 a2 a3 a4 (hq _ _ a5) a6, hZ.2⟩
/-- a walk whose locals have more listed -/
theorem mi_WX.locs {QX : Nat → Nat → mi_H → Prop} {P : mi_P} {X : mi_X} {k d mc ms pc : Nat} {lv lv' : mi_L} {st : List Value} {h : mi_H} {Q : Option Value → mi_H → Prop} (hq : ∀ q ∈ lv', q ∈ lv) (w : mi_WX QX P X k d mc ms pc lv' st h Q) : mi_WX QX P X k d mc ms pc lv st h Q := by
  intro p l e R s m args below meth c H locs cells slots Z D dA b0 xa ls F hS hc hs hR hl hZ
  refine w p l e R s m args below meth c H locs cells slots Z D dA b0 xa ls F hS hc hs hR ⟨hl.1, hl.2.1, fun q hq' => ?_⟩ hZ
  obtain ⟨q0, h1, h2⟩ := List.mem_map.mp hq'
  exact hl.2.2 q (List.mem_map.mpr ⟨q0, hq q0 h1, h2⟩)
end
section
-- the straight instructions, as a function
def mi_len : Instr → Nat := fun i => match i with
  | .bipush _ | .iload _ | .lload _ | .fload _ | .dload _ | .aload _ | .istore _ | .lstore _ | .fstore _ | .dstore _ | .astore _ | .ldc _ | .newarray _ => 2
  | .sipush _ | .iinc _ _ | .goto _ | .ifCond _ _ | .if_icmp _ _ | .if_acmp _ _ | .ifnull _ | .ifnonnull _ | .getfield _ | .putfield _ | .getstatic _ | .putstatic _ | .ldc_w _ | .ldc2_w _ | .new _ | .anewarray _ | .invokevirtual _ | .invokespecial _ | .invokestatic _ | .checkcast _ | .instanceof _ => 3
  | .multianewarray _ _ => 4
  | _ => 1
def mi_get (lv : mi_L) (i : Nat) : Option Value := match lv with
  | [] => none
  | q :: r => if q.1 = i then some q.2 else mi_get r i
theorem mi_get_mem {lv : mi_L} {i : Nat} {v : Value} (h : mi_get lv i = some v) : (i, v) ∈ lv := by
  induction lv with
  | nil => cases h
  | cons q r ih =>
    unfold mi_get at h
    by_cases e : q.1 = i
    · rw [if_pos e] at h
      cases h
      subst e
      exact List.mem_cons_self
    · rw [if_neg e] at h
      exact List.mem_cons_of_mem _ (ih h)
def mi_s1 (lv : mi_L) (i : Nat) (v : Value) : mi_L := (i, v) :: lv.filter (fun q => !(q.1 == i) && !(q.1 + 1 == i && q.2.category == 2))
def mi_s2 (lv : mi_L) (i : Nat) (v : Value) : mi_L := (i, v) :: lv.filter (fun q => !(q.1 == i) && (!(q.1 == i + 1) && !(q.1 + 1 == i && q.2.category == 2)))
theorem mi_s1_lv (ad : Nat → Nat) (lv : mi_L) (i : Nat) (v : Value) : (i, mi_V ad v) :: (mi_lv ad lv).filter (fun q => !(q.1 == i) && !(q.1 + 1 == i && q.2.category == 2)) = mi_lv ad (mi_s1 lv i v) := by
  unfold mi_s1 mi_lv
  rw [List.map_cons, List.filter_map]
  congr 2
  refine List.filter_congr fun q _ => ?_
  show (!(q.1 == i) && !(q.1 + 1 == i && (mi_V ad q.2).category == 2)) = _
  rw [mi_V_cat]
theorem mi_s2_lv (ad : Nat → Nat) (lv : mi_L) (i : Nat) (v : Value) : (i, mi_V ad v) :: (mi_lv ad lv).filter (fun q => !(q.1 == i) && (!(q.1 == i + 1) && !(q.1 + 1 == i && q.2.category == 2))) = mi_lv ad (mi_s2 lv i v) := by
  unfold mi_s2 mi_lv
  rw [List.map_cons, List.filter_map]
  congr 2
  refine List.filter_congr fun q _ => ?_
  show (!(q.1 == i) && (!(q.1 == i + 1) && !(q.1 + 1 == i && (mi_V ad q.2).category == 2))) = _
  rw [mi_V_cat]
def mi_iushr (x y : Int32) : Int32 := (x.toUInt32 >>> (y.toUInt32 &&& Int32.toUInt32 31)).toInt32
def mi_lushr (x : Int64) (y : Int32) : Int64 := (x.toUInt64 >>> (y.toInt64.toUInt64 &&& Int64.toUInt64 63)).toInt64
def mi_lshl (x : Int64) (y : Int32) : Int64 := x <<< (y.toInt64 &&& 63)
def mi_lshr (x : Int64) (y : Int32) : Int64 := x >>> (y.toInt64 &&& 63)
def mi_jump (pc : Nat) (off : Int) : Option Nat := match Int.ofNat pc + off with
  | .ofNat t => some t
  | .negSucc _ => none
theorem mi_jump_eq {pc : Nat} {off : Int} {t : Nat} (h : mi_jump pc off = some t) : (pc : Int) + off = (t : Int) := by
  unfold mi_jump at h
  split at h
  next t' e => cases h; exact e
  next => cases h
abbrev mi_O : Type := Option (Nat × mi_L × List Value)

def mi_fii (f : Int32 → Int32 → Int32) (n : Nat) (lv : mi_L) (st : List Value) : mi_O := match st with
  | .int y :: .int x :: r => some (n, lv, .int (f x y) :: r)
  | _ => none
theorem mi_fii_eq {f : Int32 → Int32 → Int32} {n : Nat} {lv : mi_L} {st : List Value} {z : Nat × mi_L × List Value} (h : mi_fii f n lv st = some z) : ∃ (x : Int32) (y : Int32) (r : List Value), st = .int y :: .int x :: r ∧ z = (n, lv, .int (f x y) :: r) := by
  unfold mi_fii at h
  split at h
  · cases h; exact ⟨_, _, _, rfl, rfl⟩
  · cases h
def mi_fll (f : Int64 → Int64 → Int64) (n : Nat) (lv : mi_L) (st : List Value) : mi_O := match st with
  | .long y :: .long x :: r => some (n, lv, .long (f x y) :: r)
  | _ => none
theorem mi_fll_eq {f : Int64 → Int64 → Int64} {n : Nat} {lv : mi_L} {st : List Value} {z : Nat × mi_L × List Value} (h : mi_fll f n lv st = some z) : ∃ (x : Int64) (y : Int64) (r : List Value), st = .long y :: .long x :: r ∧ z = (n, lv, .long (f x y) :: r) := by
  unfold mi_fll at h
  split at h
  · cases h; exact ⟨_, _, _, rfl, rfl⟩
  · cases h
def mi_fli (f : Int64 → Int32 → Int64) (n : Nat) (lv : mi_L) (st : List Value) : mi_O := match st with
  | .int y :: .long x :: r => some (n, lv, .long (f x y) :: r)
  | _ => none
theorem mi_fli_eq {f : Int64 → Int32 → Int64} {n : Nat} {lv : mi_L} {st : List Value} {z : Nat × mi_L × List Value} (h : mi_fli f n lv st = some z) : ∃ (x : Int64) (y : Int32) (r : List Value), st = .int y :: .long x :: r ∧ z = (n, lv, .long (f x y) :: r) := by
  unfold mi_fli at h
  split at h
  · cases h; exact ⟨_, _, _, rfl, rfl⟩
  · cases h
def mi_fi (f : Int32 → Int32) (n : Nat) (lv : mi_L) (st : List Value) : mi_O := match st with
  | .int x :: r => some (n, lv, .int (f x) :: r)
  | _ => none
theorem mi_fi_eq {f : Int32 → Int32} {n : Nat} {lv : mi_L} {st : List Value} {z : Nat × mi_L × List Value} (h : mi_fi f n lv st = some z) : ∃ (x : Int32) (r : List Value), st = .int x :: r ∧ z = (n, lv, .int (f x) :: r) := by
  unfold mi_fi at h
  split at h
  · cases h; exact ⟨_, _, rfl, rfl⟩
  · cases h
def mi_fl (f : Int64 → Int64) (n : Nat) (lv : mi_L) (st : List Value) : mi_O := match st with
  | .long x :: r => some (n, lv, .long (f x) :: r)
  | _ => none
theorem mi_fl_eq {f : Int64 → Int64} {n : Nat} {lv : mi_L} {st : List Value} {z : Nat × mi_L × List Value} (h : mi_fl f n lv st = some z) : ∃ (x : Int64) (r : List Value), st = .long x :: r ∧ z = (n, lv, .long (f x) :: r) := by
  unfold mi_fl at h
  split at h
  · cases h; exact ⟨_, _, rfl, rfl⟩
  · cases h
def mi_fil (f : Int32 → Int64) (n : Nat) (lv : mi_L) (st : List Value) : mi_O := match st with
  | .int x :: r => some (n, lv, .long (f x) :: r)
  | _ => none
theorem mi_fil_eq {f : Int32 → Int64} {n : Nat} {lv : mi_L} {st : List Value} {z : Nat × mi_L × List Value} (h : mi_fil f n lv st = some z) : ∃ (x : Int32) (r : List Value), st = .int x :: r ∧ z = (n, lv, .long (f x) :: r) := by
  unfold mi_fil at h
  split at h
  · cases h; exact ⟨_, _, rfl, rfl⟩
  · cases h
def mi_fl_i (f : Int64 → Int32) (n : Nat) (lv : mi_L) (st : List Value) : mi_O := match st with
  | .long x :: r => some (n, lv, .int (f x) :: r)
  | _ => none
theorem mi_fl_i_eq {f : Int64 → Int32} {n : Nat} {lv : mi_L} {st : List Value} {z : Nat × mi_L × List Value} (h : mi_fl_i f n lv st = some z) : ∃ (x : Int64) (r : List Value), st = .long x :: r ∧ z = (n, lv, .int (f x) :: r) := by
  unfold mi_fl_i at h
  split at h
  · cases h; exact ⟨_, _, rfl, rfl⟩
  · cases h
def mi_fll_i (f : Int64 → Int64 → Int32) (n : Nat) (lv : mi_L) (st : List Value) : mi_O := match st with
  | .long y :: .long x :: r => some (n, lv, .int (f x y) :: r)
  | _ => none
theorem mi_fll_i_eq {f : Int64 → Int64 → Int32} {n : Nat} {lv : mi_L} {st : List Value} {z : Nat × mi_L × List Value} (h : mi_fll_i f n lv st = some z) : ∃ (x : Int64) (y : Int64) (r : List Value), st = .long y :: .long x :: r ∧ z = (n, lv, .int (f x y) :: r) := by
  unfold mi_fll_i at h
  split at h
  · cases h; exact ⟨_, _, _, rfl, rfl⟩
  · cases h
def mi_fdd_i (f : UInt64 → UInt64 → Int32) (n : Nat) (lv : mi_L) (st : List Value) : mi_O := match st with
  | .double y :: .double x :: r => some (n, lv, .int (f x y) :: r)
  | _ => none
theorem mi_fdd_i_eq {f : UInt64 → UInt64 → Int32} {n : Nat} {lv : mi_L} {st : List Value} {z : Nat × mi_L × List Value} (h : mi_fdd_i f n lv st = some z) : ∃ (x : UInt64) (y : UInt64) (r : List Value), st = .double y :: .double x :: r ∧ z = (n, lv, .int (f x y) :: r) := by
  unfold mi_fdd_i at h
  split at h
  · cases h; exact ⟨_, _, _, rfl, rfl⟩
  · cases h
def mi_fff_i (f : UInt32 → UInt32 → Int32) (n : Nat) (lv : mi_L) (st : List Value) : mi_O := match st with
  | .float y :: .float x :: r => some (n, lv, .int (f x y) :: r)
  | _ => none
theorem mi_fff_i_eq {f : UInt32 → UInt32 → Int32} {n : Nat} {lv : mi_L} {st : List Value} {z : Nat × mi_L × List Value} (h : mi_fff_i f n lv st = some z) : ∃ (x : UInt32) (y : UInt32) (r : List Value), st = .float y :: .float x :: r ∧ z = (n, lv, .int (f x y) :: r) := by
  unfold mi_fff_i at h
  split at h
  · cases h; exact ⟨_, _, _, rfl, rfl⟩
  · cases h
def mi_fid (f : Int32 → UInt64) (n : Nat) (lv : mi_L) (st : List Value) : mi_O := match st with
  | .int x :: r => some (n, lv, .double (f x) :: r)
  | _ => none
theorem mi_fid_eq {f : Int32 → UInt64} {n : Nat} {lv : mi_L} {st : List Value} {z : Nat × mi_L × List Value} (h : mi_fid f n lv st = some z) : ∃ (x : Int32) (r : List Value), st = .int x :: r ∧ z = (n, lv, .double (f x) :: r) := by
  unfold mi_fid at h
  split at h
  · cases h; exact ⟨_, _, rfl, rfl⟩
  · cases h
def mi_fd_i (f : UInt64 → Int32) (n : Nat) (lv : mi_L) (st : List Value) : mi_O := match st with
  | .double x :: r => some (n, lv, .int (f x) :: r)
  | _ => none
theorem mi_fd_i_eq {f : UInt64 → Int32} {n : Nat} {lv : mi_L} {st : List Value} {z : Nat × mi_L × List Value} (h : mi_fd_i f n lv st = some z) : ∃ (x : UInt64) (r : List Value), st = .double x :: r ∧ z = (n, lv, .int (f x) :: r) := by
  unfold mi_fd_i at h
  split at h
  · cases h; exact ⟨_, _, rfl, rfl⟩
  · cases h
def mi_fd_l (f : UInt64 → Int64) (n : Nat) (lv : mi_L) (st : List Value) : mi_O := match st with
  | .double x :: r => some (n, lv, .long (f x) :: r)
  | _ => none
theorem mi_fd_l_eq {f : UInt64 → Int64} {n : Nat} {lv : mi_L} {st : List Value} {z : Nat × mi_L × List Value} (h : mi_fd_l f n lv st = some z) : ∃ (x : UInt64) (r : List Value), st = .double x :: r ∧ z = (n, lv, .long (f x) :: r) := by
  unfold mi_fd_l at h
  split at h
  · cases h; exact ⟨_, _, rfl, rfl⟩
  · cases h
def mi_fif (f : Int32 → UInt32) (n : Nat) (lv : mi_L) (st : List Value) : mi_O := match st with
  | .int x :: r => some (n, lv, .float (f x) :: r)
  | _ => none
theorem mi_fif_eq {f : Int32 → UInt32} {n : Nat} {lv : mi_L} {st : List Value} {z : Nat × mi_L × List Value} (h : mi_fif f n lv st = some z) : ∃ (x : Int32) (r : List Value), st = .int x :: r ∧ z = (n, lv, .float (f x) :: r) := by
  unfold mi_fif at h
  split at h
  · cases h; exact ⟨_, _, rfl, rfl⟩
  · cases h
def mi_fld (f : Int64 → UInt64) (n : Nat) (lv : mi_L) (st : List Value) : mi_O := match st with
  | .long x :: r => some (n, lv, .double (f x) :: r)
  | _ => none
theorem mi_fld_eq {f : Int64 → UInt64} {n : Nat} {lv : mi_L} {st : List Value} {z : Nat × mi_L × List Value} (h : mi_fld f n lv st = some z) : ∃ (x : Int64) (r : List Value), st = .long x :: r ∧ z = (n, lv, .double (f x) :: r) := by
  unfold mi_fld at h
  split at h
  · cases h; exact ⟨_, _, rfl, rfl⟩
  · cases h
def mi_ld_i (n i : Nat) (lv : mi_L) (st : List Value) : mi_O := match mi_get lv i with
  | some (.int x) => some (n, lv, .int x :: st)
  | _ => none
theorem mi_ld_i_eq {n i : Nat} {lv : mi_L} {st : List Value} {z : Nat × mi_L × List Value} (h : mi_ld_i n i lv st = some z) : ∃ x : Int32, mi_get lv i = some (.int x) ∧ z = (n, lv, .int x :: st) := by
  unfold mi_ld_i at h
  split at h
  next x e => cases h; exact ⟨x, e, rfl⟩
  next => cases h
def mi_st_i (n i nL : Nat) (lv : mi_L) (st : List Value) : mi_O := match st with
  | .int x :: r => if i < nL then some (n, mi_s1 lv i (.int x), r) else none
  | _ => none
theorem mi_st_i_eq {n i nL : Nat} {lv : mi_L} {st : List Value} {z : Nat × mi_L × List Value} (h : mi_st_i n i nL lv st = some z) : i < nL ∧ ∃ (x : Int32) (r : List Value), st = .int x :: r ∧ z = (n, mi_s1 lv i (.int x), r) := by
  unfold mi_st_i at h
  split at h
  next x r =>
    by_cases e : i < nL
    · rw [if_pos e] at h; cases h; exact ⟨e, x, r, rfl, rfl⟩
    · rw [if_neg e] at h; cases h
  next => cases h
def mi_ld_l (n i : Nat) (lv : mi_L) (st : List Value) : mi_O := match mi_get lv i with
  | some (.long x) => some (n, lv, .long x :: st)
  | _ => none
theorem mi_ld_l_eq {n i : Nat} {lv : mi_L} {st : List Value} {z : Nat × mi_L × List Value} (h : mi_ld_l n i lv st = some z) : ∃ x : Int64, mi_get lv i = some (.long x) ∧ z = (n, lv, .long x :: st) := by
  unfold mi_ld_l at h
  split at h
  next x e => cases h; exact ⟨x, e, rfl⟩
  next => cases h
def mi_st_l (n i nL : Nat) (lv : mi_L) (st : List Value) : mi_O := match st with
  | .long x :: r => if i + 1 < nL then some (n, mi_s2 lv i (.long x), r) else none
  | _ => none
theorem mi_st_l_eq {n i nL : Nat} {lv : mi_L} {st : List Value} {z : Nat × mi_L × List Value} (h : mi_st_l n i nL lv st = some z) : i + 1 < nL ∧ ∃ (x : Int64) (r : List Value), st = .long x :: r ∧ z = (n, mi_s2 lv i (.long x), r) := by
  unfold mi_st_l at h
  split at h
  next x r =>
    by_cases e : i + 1 < nL
    · rw [if_pos e] at h; cases h; exact ⟨e, x, r, rfl, rfl⟩
    · rw [if_neg e] at h; cases h
  next => cases h
def mi_ld_f (n i : Nat) (lv : mi_L) (st : List Value) : mi_O := match mi_get lv i with
  | some (.float x) => some (n, lv, .float x :: st)
  | _ => none
theorem mi_ld_f_eq {n i : Nat} {lv : mi_L} {st : List Value} {z : Nat × mi_L × List Value} (h : mi_ld_f n i lv st = some z) : ∃ x : UInt32, mi_get lv i = some (.float x) ∧ z = (n, lv, .float x :: st) := by
  unfold mi_ld_f at h
  split at h
  next x e => cases h; exact ⟨x, e, rfl⟩
  next => cases h
def mi_st_f (n i nL : Nat) (lv : mi_L) (st : List Value) : mi_O := match st with
  | .float x :: r => if i < nL then some (n, mi_s1 lv i (.float x), r) else none
  | _ => none
theorem mi_st_f_eq {n i nL : Nat} {lv : mi_L} {st : List Value} {z : Nat × mi_L × List Value} (h : mi_st_f n i nL lv st = some z) : i < nL ∧ ∃ (x : UInt32) (r : List Value), st = .float x :: r ∧ z = (n, mi_s1 lv i (.float x), r) := by
  unfold mi_st_f at h
  split at h
  next x r =>
    by_cases e : i < nL
    · rw [if_pos e] at h; cases h; exact ⟨e, x, r, rfl, rfl⟩
    · rw [if_neg e] at h; cases h
  next => cases h
def mi_ld_d (n i : Nat) (lv : mi_L) (st : List Value) : mi_O := match mi_get lv i with
  | some (.double x) => some (n, lv, .double x :: st)
  | _ => none
theorem mi_ld_d_eq {n i : Nat} {lv : mi_L} {st : List Value} {z : Nat × mi_L × List Value} (h : mi_ld_d n i lv st = some z) : ∃ x : UInt64, mi_get lv i = some (.double x) ∧ z = (n, lv, .double x :: st) := by
  unfold mi_ld_d at h
  split at h
  next x e => cases h; exact ⟨x, e, rfl⟩
  next => cases h
def mi_st_d (n i nL : Nat) (lv : mi_L) (st : List Value) : mi_O := match st with
  | .double x :: r => if i + 1 < nL then some (n, mi_s2 lv i (.double x), r) else none
  | _ => none
theorem mi_st_d_eq {n i nL : Nat} {lv : mi_L} {st : List Value} {z : Nat × mi_L × List Value} (h : mi_st_d n i nL lv st = some z) : i + 1 < nL ∧ ∃ (x : UInt64) (r : List Value), st = .double x :: r ∧ z = (n, mi_s2 lv i (.double x), r) := by
  unfold mi_st_d at h
  split at h
  next x r =>
    by_cases e : i + 1 < nL
    · rw [if_pos e] at h; cases h; exact ⟨e, x, r, rfl, rfl⟩
    · rw [if_neg e] at h; cases h
  next => cases h
def mi_ld_a (n i : Nat) (lv : mi_L) (st : List Value) : mi_O := match mi_get lv i with
  | some (.ref x) => some (n, lv, .ref x :: st)
  | some .null => some (n, lv, .null :: st)
  | _ => none
theorem mi_ld_a_eq {n i : Nat} {lv : mi_L} {st : List Value} {z : Nat × mi_L × List Value} (h : mi_ld_a n i lv st = some z) : (∃ x : Nat, mi_get lv i = some (.ref x) ∧ z = (n, lv, .ref x :: st)) ∨ (mi_get lv i = some .null ∧ z = (n, lv, .null :: st)) := by
  unfold mi_ld_a at h
  split at h
  next x e => cases h; exact Or.inl ⟨x, e, rfl⟩
  next e => cases h; exact Or.inr ⟨e, rfl⟩
  next => cases h
def mi_st_a (n i nL : Nat) (lv : mi_L) (st : List Value) : mi_O := match st with
  | .ref x :: r => if i < nL then some (n, mi_s1 lv i (.ref x), r) else none
  | .null :: r => if i < nL then some (n, mi_s1 lv i .null, r) else none
  | _ => none
theorem mi_st_a_eq {n i nL : Nat} {lv : mi_L} {st : List Value} {z : Nat × mi_L × List Value} (h : mi_st_a n i nL lv st = some z) : i < nL ∧ ((∃ (x : Nat) (r : List Value), st = .ref x :: r ∧ z = (n, mi_s1 lv i (.ref x), r)) ∨ ∃ r : List Value, st = .null :: r ∧ z = (n, mi_s1 lv i .null, r)) := by
  unfold mi_st_a at h
  split at h
  next x r =>
    by_cases e : i < nL
    · rw [if_pos e] at h; cases h; exact ⟨e, Or.inl ⟨x, r, rfl, rfl⟩⟩
    · rw [if_neg e] at h; cases h
  next r =>
    by_cases e : i < nL
    · rw [if_pos e] at h; cases h; exact ⟨e, Or.inr ⟨r, rfl, rfl⟩⟩
    · rw [if_neg e] at h; cases h
  next => cases h
def mi_inc (n i nL : Nat) (k : Int) (lv : mi_L) (st : List Value) : mi_O := match mi_get lv i with
  | some (.int x) => if i < nL then some (n, mi_s1 lv i (.int (x + Int32.ofInt k)), st) else none
  | _ => none
theorem mi_inc_eq {n i nL : Nat} {k : Int} {lv : mi_L} {st : List Value} {z : Nat × mi_L × List Value} (h : mi_inc n i nL k lv st = some z) : i < nL ∧ ∃ x : Int32, mi_get lv i = some (.int x) ∧ z = (n, mi_s1 lv i (.int (x + Int32.ofInt k)), st) := by
  unfold mi_inc at h
  split at h
  next x e =>
    by_cases e' : i < nL
    · rw [if_pos e'] at h; cases h; exact ⟨e', x, e, rfl⟩
    · rw [if_neg e'] at h; cases h
  next => cases h
def mi_pop (n : Nat) (lv : mi_L) (st : List Value) : mi_O := match st with
  | v :: r => if v.category = 1 then some (n, lv, r) else none
  | _ => none
def mi_dup (n : Nat) (lv : mi_L) (st : List Value) : mi_O := match st with
  | v :: r => if v.category = 1 then some (n, lv, v :: v :: r) else none
  | _ => none
def mi_dup_x1 (n : Nat) (lv : mi_L) (st : List Value) : mi_O := match st with
  | v :: u :: r => if v.category = 1 ∧ u.category = 1 then some (n, lv, v :: u :: v :: r) else none
  | _ => none
def mi_dup2 (n : Nat) (lv : mi_L) (st : List Value) : mi_O := match st with
  | v :: u :: r => if v.category = 1 ∧ u.category = 1 then some (n, lv, v :: u :: v :: u :: r) else none
  | _ => none
def mi_pop2 (n : Nat) (lv : mi_L) (st : List Value) : mi_O := match st with
  | v :: r => if v.category = 2 then some (n, lv, r) else none
  | _ => none
theorem mi_pop_eq {n : Nat} {lv : mi_L} {st : List Value} {z : Nat × mi_L × List Value} (h : mi_pop n lv st = some z) : ∃ (v : Value) (r : List Value), (v.category = 1) ∧ st = v :: r ∧ z = (n, lv, r) := by
  unfold mi_pop at h
  split at h
  next v r =>
    by_cases e : v.category = 1
    · rw [if_pos e] at h; cases h; exact ⟨_, _, e, rfl, rfl⟩
    · rw [if_neg e] at h; cases h
  next => cases h
theorem mi_dup_eq {n : Nat} {lv : mi_L} {st : List Value} {z : Nat × mi_L × List Value} (h : mi_dup n lv st = some z) : ∃ (v : Value) (r : List Value), (v.category = 1) ∧ st = v :: r ∧ z = (n, lv, v :: v :: r) := by
  unfold mi_dup at h
  split at h
  next v r =>
    by_cases e : v.category = 1
    · rw [if_pos e] at h; cases h; exact ⟨_, _, e, rfl, rfl⟩
    · rw [if_neg e] at h; cases h
  next => cases h
theorem mi_dup_x1_eq {n : Nat} {lv : mi_L} {st : List Value} {z : Nat × mi_L × List Value} (h : mi_dup_x1 n lv st = some z) : ∃ (v u : Value) (r : List Value), (v.category = 1 ∧ u.category = 1) ∧ st = v :: u :: r ∧ z = (n, lv, v :: u :: v :: r) := by
  unfold mi_dup_x1 at h
  split at h
  next v u r =>
    by_cases e : v.category = 1 ∧ u.category = 1
    · rw [if_pos e] at h; cases h; exact ⟨_, _, _, e, rfl, rfl⟩
    · rw [if_neg e] at h; cases h
  next => cases h
theorem mi_dup2_eq {n : Nat} {lv : mi_L} {st : List Value} {z : Nat × mi_L × List Value} (h : mi_dup2 n lv st = some z) : ∃ (v u : Value) (r : List Value), (v.category = 1 ∧ u.category = 1) ∧ st = v :: u :: r ∧ z = (n, lv, v :: u :: v :: u :: r) := by
  unfold mi_dup2 at h
  split at h
  next v u r =>
    by_cases e : v.category = 1 ∧ u.category = 1
    · rw [if_pos e] at h; cases h; exact ⟨_, _, _, e, rfl, rfl⟩
    · rw [if_neg e] at h; cases h
  next => cases h
theorem mi_pop2_eq {n : Nat} {lv : mi_L} {st : List Value} {z : Nat × mi_L × List Value} (h : mi_pop2 n lv st = some z) : ∃ (v : Value) (r : List Value), (v.category = 2) ∧ st = v :: r ∧ z = (n, lv, r) := by
  unfold mi_pop2 at h
  split at h
  next v r =>
    by_cases e : v.category = 2
    · rw [if_pos e] at h; cases h; exact ⟨_, _, e, rfl, rfl⟩
    · rw [if_neg e] at h; cases h
  next => cases h
def mi_p (nL : Nat) (i : Instr) (pc : Nat) (lv : mi_L) (st : List Value) : mi_O := match i with
  | .iconst n => some (pc + 1, lv, .int (Int32.ofInt n) :: st)
  | .bipush n => some (pc + 2, lv, .int (Int8.ofInt n).toInt32 :: st)
  | .sipush n => some (pc + 3, lv, .int (Int16.ofInt n).toInt32 :: st)
  | .lconst n => some (pc + 1, lv, .long (Int64.ofNat (n : Nat)) :: st)
  | .aconst_null => some (pc + 1, lv, .null :: st)
  | .iload i => mi_ld_i (pc + 2) i lv st
  | .iload_n i => mi_ld_i (pc + 1) i lv st
  | .lload i => mi_ld_l (pc + 2) i lv st
  | .lload_n i => mi_ld_l (pc + 1) i lv st
  | .fload i => mi_ld_f (pc + 2) i lv st
  | .fload_n i => mi_ld_f (pc + 1) i lv st
  | .dload i => mi_ld_d (pc + 2) i lv st
  | .dload_n i => mi_ld_d (pc + 1) i lv st
  | .aload i => mi_ld_a (pc + 2) i lv st
  | .aload_n i => mi_ld_a (pc + 1) i lv st
  | .istore i => mi_st_i (pc + 2) i nL lv st
  | .istore_n i => mi_st_i (pc + 1) i nL lv st
  | .lstore i => mi_st_l (pc + 2) i nL lv st
  | .lstore_n i => mi_st_l (pc + 1) i nL lv st
  | .fstore i => mi_st_f (pc + 2) i nL lv st
  | .fstore_n i => mi_st_f (pc + 1) i nL lv st
  | .dstore i => mi_st_d (pc + 2) i nL lv st
  | .dstore_n i => mi_st_d (pc + 1) i nL lv st
  | .astore i => mi_st_a (pc + 2) i nL lv st
  | .astore_n i => mi_st_a (pc + 1) i nL lv st
  | .iinc i n => mi_inc (pc + 3) i nL n lv st
  | .iadd => mi_fii (fun x y => x + y) (pc + 1) lv st
  | .isub => mi_fii (fun x y => x - y) (pc + 1) lv st
  | .imul => mi_fii (fun x y => x * y) (pc + 1) lv st
  | .iand => mi_fii (fun x y => x &&& y) (pc + 1) lv st
  | .ior => mi_fii (fun x y => x ||| y) (pc + 1) lv st
  | .ixor => mi_fii (fun x y => x ^^^ y) (pc + 1) lv st
  | .ladd => mi_fll (fun x y => x + y) (pc + 1) lv st
  | .lsub => mi_fll (fun x y => x - y) (pc + 1) lv st
  | .lmul => mi_fll (fun x y => x * y) (pc + 1) lv st
  | .land => mi_fll (fun x y => x &&& y) (pc + 1) lv st
  | .lor => mi_fll (fun x y => x ||| y) (pc + 1) lv st
  | .lxor => mi_fll (fun x y => x ^^^ y) (pc + 1) lv st
  | .ishl => mi_fii (fun x y => x <<< (y &&& 31)) (pc + 1) lv st
  | .ishr => mi_fii (fun x y => x >>> (y &&& 31)) (pc + 1) lv st
  | .iushr => mi_fii mi_iushr (pc + 1) lv st
  | .lshl => mi_fli mi_lshl (pc + 1) lv st
  | .lshr => mi_fli mi_lshr (pc + 1) lv st
  | .lushr => mi_fli mi_lushr (pc + 1) lv st
  | .ineg => mi_fi (fun x => -x) (pc + 1) lv st
  | .lneg => mi_fl (fun x => -x) (pc + 1) lv st
  | .i2l => mi_fil (fun x => x.toInt64) (pc + 1) lv st
  | .l2i => mi_fl_i (fun x => x.toInt32) (pc + 1) lv st
  | .lcmp => mi_fll_i lg_cmp (pc + 1) lv st
  | .i2d => mi_fid FP.i2d (pc + 1) lv st
  | .d2i => mi_fd_i FP.d2i (pc + 1) lv st
  | .d2l => mi_fd_l FP.d2l (pc + 1) lv st
  | .i2f => mi_fif FP.i2f (pc + 1) lv st
  | .l2d => mi_fld FP.l2d (pc + 1) lv st
  | .dcmp o => mi_fdd_i (fun x y => Op.cmpValue (FP.dcmp x y) o) (pc + 1) lv st
  | .fcmp o => mi_fff_i (fun x y => Op.cmpValue (FP.fcmp x y) o) (pc + 1) lv st
  | .pop => mi_pop (pc + 1) lv st
  | .dup => mi_dup (pc + 1) lv st
  | .dup_x1 => mi_dup_x1 (pc + 1) lv st
  | .dup2 => mi_dup2 (pc + 1) lv st
  | .pop2 => mi_pop2 (pc + 1) lv st
  | .goto o => (mi_jump pc o).map (fun t => (t, lv, st))
  | .fconst n => some (pc + 1, lv, .float (match n with | 0 => FP.fconst0 | 1 => FP.fconst1 | 2 => FP.fconst2) :: st)
  | .dconst n => some (pc + 1, lv, .double (match n with | 0 => FP.dconst0 | 1 => FP.dconst1) :: st)
  | _ => none
theorem mi_mem_l {ad : Nat → Nat} {lv : mi_L} {i : Nat} {v : Value} (h : mi_get lv i = some v) : (i, mi_V ad v) ∈ mi_lv ad lv := List.mem_map.mpr ⟨(i, v), mi_get_mem h, rfl⟩
theorem mi_at_l {ad : Nat → Nat} {ls : Array Slot} {nL : Nat} {lv : mi_L} {i : Nat} {v : Value} (hl : lv_has ls nL (mi_lv ad lv)) (h : mi_get lv i = some v) : ls[i]? = some (.val (mi_V ad v)) := hl.2.2 (i, mi_V ad v) (mi_mem_l h)
section MIP
variable {p : Program} {l : Launch} {e : Env} {R : Room} {s : State} {m : MethodId} {args : Array Value} {below : List Frame} {meth : Method} {c : Code} {H : Heap} {locs : List Loc} {cells slots : Nat} {Q : State → Prop}
set_option maxHeartbeats 4000000 in
theorem mi_p_W {ad : Nat → Nat} {cc : ByteArray} {nL : Nat} {i : Instr} {pc : Nat} {lv : mi_L} {st : List Value} {z : Nat × mi_L × List Value} {ls : Array Slot} (hx : p.tables.exec = Jvm.exec) (hb : c.code = cc) (hdg : decode cc pc = .ok (i, mi_len i)) (hp : mi_p nL i pc lv st = some z) (hl : lv_has ls nL (mi_lv ad lv))
    (kk : ∀ ls' : Array Slot, lv_has ls' nL (mi_lv ad z.2.1) → W p l e R s m args below meth c H locs cells slots Q (F0 m z.1 ls' (z.2.2.map (mi_V ad)))) : W p l e R s m args below meth c H locs cells slots Q (F0 m pc ls (st.map (mi_V ad))) := by
  unfold mi_p at hp
  split at hp
  next n => cases hp; exact lv_iconst hx hb hdg rfl (kk ls hl)
  next n => cases hp; exact lv_bipush hx hb hdg rfl (kk ls hl)
  next n => cases hp; exact lv_sipush hx hb hdg rfl (kk ls hl)
  next n => cases hp; exact lv_lconst hx hb hdg rfl (kk ls hl)
  next => cases hp; exact lv_null hx hb hdg (kk ls hl)
  next i => obtain ⟨x, e, rfl⟩ := mi_ld_i_eq hp; exact lv_iload hx hb hdg (mi_at_l hl e) (kk ls hl)
  next i => obtain ⟨x, e, rfl⟩ := mi_ld_i_eq hp; exact lv_iload_n hx hb hdg rfl (mi_at_l hl e) (kk ls hl)
  next i => obtain ⟨x, e, rfl⟩ := mi_ld_l_eq hp; exact lv_lload hx hb hdg (mi_at_l hl e) (kk ls hl)
  next i => obtain ⟨x, e, rfl⟩ := mi_ld_l_eq hp; exact lv_lload_n hx hb hdg rfl (mi_at_l hl e) (kk ls hl)
  next i => obtain ⟨x, e, rfl⟩ := mi_ld_f_eq hp; exact lv_fload hx hb hdg (mi_at_l hl e) (kk ls hl)
  next i => obtain ⟨x, e, rfl⟩ := mi_ld_f_eq hp; exact lv_fload_n hx hb hdg rfl (mi_at_l hl e) (kk ls hl)
  next i => obtain ⟨x, e, rfl⟩ := mi_ld_d_eq hp; exact lv_dload hx hb hdg (mi_at_l hl e) (kk ls hl)
  next i => obtain ⟨x, e, rfl⟩ := mi_ld_d_eq hp; exact lv_dload_n hx hb hdg rfl (mi_at_l hl e) (kk ls hl)
  next i => 
    rcases mi_ld_a_eq hp with ⟨x, e, rfl⟩ | ⟨e, rfl⟩
    · exact lv_aload hx hb hdg (mi_at_l hl e) (kk ls hl)
    · exact lv_aloadN hx hb hdg (mi_at_l hl e) (kk ls hl)
  next i => 
    rcases mi_ld_a_eq hp with ⟨x, e, rfl⟩ | ⟨e, rfl⟩
    · exact lv_aload_n hx hb hdg rfl (mi_at_l hl e) (kk ls hl)
    · exact lv_aload_nN hx hb hdg rfl (mi_at_l hl e) (kk ls hl)
  next i => obtain ⟨e, x, r, rfl, rfl⟩ := mi_st_i_eq hp; exact lv_istore hx hb hdg hl e (mi_s1_lv ad lv i (.int x)) kk
  next i => obtain ⟨e, x, r, rfl, rfl⟩ := mi_st_i_eq hp; exact lv_istore_n hx hb hdg rfl hl e (mi_s1_lv ad lv i (.int x)) kk
  next i => obtain ⟨e, x, r, rfl, rfl⟩ := mi_st_l_eq hp; exact lv_lstore hx hb hdg hl e (mi_s2_lv ad lv i (.long x)) kk
  next i => obtain ⟨e, x, r, rfl, rfl⟩ := mi_st_l_eq hp; exact lv_lstore_n hx hb hdg rfl hl e (mi_s2_lv ad lv i (.long x)) kk
  next i => obtain ⟨e, x, r, rfl, rfl⟩ := mi_st_f_eq hp; exact lv_fstore hx hb hdg hl e (mi_s1_lv ad lv i (.float x)) kk
  next i => obtain ⟨e, x, r, rfl, rfl⟩ := mi_st_f_eq hp; exact lv_fstore_n hx hb hdg rfl hl e (mi_s1_lv ad lv i (.float x)) kk
  next i => obtain ⟨e, x, r, rfl, rfl⟩ := mi_st_d_eq hp; exact lv_dstore hx hb hdg hl e (mi_s2_lv ad lv i (.double x)) kk
  next i => obtain ⟨e, x, r, rfl, rfl⟩ := mi_st_d_eq hp; exact lv_dstore_n hx hb hdg rfl hl e (mi_s2_lv ad lv i (.double x)) kk
  next i => 
    obtain ⟨e, ⟨x, r, rfl, rfl⟩ | ⟨r, rfl, rfl⟩⟩ := mi_st_a_eq hp
    · exact lv_astore hx hb hdg hl e (mi_s1_lv ad lv i (.ref x)) kk
    · exact lv_astoreN hx hb hdg hl e (mi_s1_lv ad lv i .null) kk
  next i => 
    obtain ⟨e, ⟨x, r, rfl, rfl⟩ | ⟨r, rfl, rfl⟩⟩ := mi_st_a_eq hp
    · exact lv_astore_n hx hb hdg rfl hl e (mi_s1_lv ad lv i (.ref x)) kk
    · exact lv_astore_nN hx hb hdg rfl hl e (mi_s1_lv ad lv i .null) kk
  next i n => obtain ⟨e, x, e2, rfl⟩ := mi_inc_eq hp; obtain ⟨j, hj⟩ := List.getElem?_of_mem (mi_mem_l (ad := ad) e2); exact lv_iinc hx hb hdg hl hj rfl e (mi_s1_lv ad lv i (.int (x + Int32.ofInt n))) kk
  next => obtain ⟨x, y, r, rfl, rfl⟩ := mi_fii_eq hp; exact lv_iadd hx hb hdg (kk ls hl)
  next => obtain ⟨x, y, r, rfl, rfl⟩ := mi_fii_eq hp; exact lv_isub hx hb hdg (kk ls hl)
  next => obtain ⟨x, y, r, rfl, rfl⟩ := mi_fii_eq hp; exact lv_imul hx hb hdg (kk ls hl)
  next => obtain ⟨x, y, r, rfl, rfl⟩ := mi_fii_eq hp; exact lv_iand hx hb hdg (kk ls hl)
  next => obtain ⟨x, y, r, rfl, rfl⟩ := mi_fii_eq hp; exact lv_ior hx hb hdg (kk ls hl)
  next => obtain ⟨x, y, r, rfl, rfl⟩ := mi_fii_eq hp; exact lv_ixor hx hb hdg (kk ls hl)
  next => obtain ⟨x, y, r, rfl, rfl⟩ := mi_fll_eq hp; exact lv_ladd hx hb hdg (kk ls hl)
  next => obtain ⟨x, y, r, rfl, rfl⟩ := mi_fll_eq hp; exact lv_lsub hx hb hdg (kk ls hl)
  next => obtain ⟨x, y, r, rfl, rfl⟩ := mi_fll_eq hp; exact lv_lmul hx hb hdg (kk ls hl)
  next => obtain ⟨x, y, r, rfl, rfl⟩ := mi_fll_eq hp; exact lv_land hx hb hdg (kk ls hl)
  next => obtain ⟨x, y, r, rfl, rfl⟩ := mi_fll_eq hp; exact lv_lor hx hb hdg (kk ls hl)
  next => obtain ⟨x, y, r, rfl, rfl⟩ := mi_fll_eq hp; exact lv_lxor hx hb hdg (kk ls hl)
  next => obtain ⟨x, y, r, rfl, rfl⟩ := mi_fii_eq hp; exact lv_ishl hx hb hdg (kk ls hl)
  next => obtain ⟨x, y, r, rfl, rfl⟩ := mi_fii_eq hp; exact lv_ishr hx hb hdg (kk ls hl)
  next => obtain ⟨x, y, r, rfl, rfl⟩ := mi_fii_eq hp; exact lv_iushr hx hb hdg rfl (kk ls hl)
  next => obtain ⟨x, y, r, rfl, rfl⟩ := mi_fli_eq hp; exact lv_lshl hx hb hdg rfl (kk ls hl)
  next => obtain ⟨x, y, r, rfl, rfl⟩ := mi_fli_eq hp; exact lv_lshr hx hb hdg rfl (kk ls hl)
  next => obtain ⟨x, y, r, rfl, rfl⟩ := mi_fli_eq hp; exact lv_lushr hx hb hdg rfl (kk ls hl)
  next => obtain ⟨x, r, rfl, rfl⟩ := mi_fi_eq hp; exact lv_ineg hx hb hdg (kk ls hl)
  next => obtain ⟨x, r, rfl, rfl⟩ := mi_fl_eq hp; exact lv_lneg hx hb hdg (kk ls hl)
  next => obtain ⟨x, r, rfl, rfl⟩ := mi_fil_eq hp; exact lv_i2l hx hb hdg rfl (kk ls hl)
  next => obtain ⟨x, r, rfl, rfl⟩ := mi_fl_i_eq hp; exact lv_l2i hx hb hdg rfl (kk ls hl)
  next => obtain ⟨x, y, r, rfl, rfl⟩ := mi_fll_i_eq hp; exact W.lcmp hx hb hdg (kk ls hl)
  next => obtain ⟨x, r, rfl, rfl⟩ := mi_fid_eq hp; exact lv_i2d hx hb hdg (kk ls hl)
  next => obtain ⟨x, r, rfl, rfl⟩ := mi_fd_i_eq hp; exact lv_d2i hx hb hdg (kk ls hl)
  next => obtain ⟨x, r, rfl, rfl⟩ := mi_fd_l_eq hp; exact lv_d2l hx hb hdg (kk ls hl)
  next => obtain ⟨x, r, rfl, rfl⟩ := mi_fif_eq hp; exact lv_i2f hx hb hdg (kk ls hl)
  next => obtain ⟨x, r, rfl, rfl⟩ := mi_fld_eq hp; exact lv_l2d hx hb hdg (kk ls hl)
  next o => obtain ⟨x, y, r, rfl, rfl⟩ := mi_fdd_i_eq hp; exact lv_dcmp hx hb hdg (kk ls hl)
  next o => obtain ⟨x, y, r, rfl, rfl⟩ := mi_fff_i_eq hp; exact lv_fcmp hx hb hdg (kk ls hl)
  next => obtain ⟨v, r, e, rfl, rfl⟩ := mi_pop_eq hp; exact lv_pop hx hb hdg ((mi_V_cat ad v).trans e) (kk ls hl)
  next => obtain ⟨v, r, e, rfl, rfl⟩ := mi_dup_eq hp; exact lv_dup hx hb hdg ((mi_V_cat ad v).trans e) (kk ls hl)
  next => obtain ⟨v, u, r, e, rfl, rfl⟩ := mi_dup_x1_eq hp; exact lv_dup_x1 hx hb hdg ((mi_V_cat ad v).trans e.1) ((mi_V_cat ad u).trans e.2) (kk ls hl)
  next => obtain ⟨v, u, r, e, rfl, rfl⟩ := mi_dup2_eq hp; exact lv_dup2_11 hx hb hdg ((mi_V_cat ad v).trans e.1) ((mi_V_cat ad u).trans e.2) (kk ls hl)
  next => obtain ⟨v, r, e, rfl, rfl⟩ := mi_pop2_eq hp; exact lv_pop2_2 hx hb hdg ((mi_V_cat ad v).trans e) (kk ls hl)
  next o => obtain ⟨t, e, h2⟩ := Option.map_eq_some_iff.mp hp; cases h2; exact lv_goto hx hb hdg (mi_jump_eq e) (kk ls hl)
  next n => cases hp; match n, hdg with | 0, hdg => exact lv_fconst0 hx hb hdg (kk ls hl) | 1, hdg => exact lv_fconst1 hx hb hdg (kk ls hl) | 2, hdg => exact lv_fconst2 hx hb hdg (kk ls hl)
  next n => cases hp; match n, hdg with | 0, hdg => exact lv_dconst0 hx hb hdg (kk ls hl) | 1, hdg => exact lv_dconst1 hx hb hdg (kk ls hl)
  next => cases hp
end MIP
end
section
-- a stretch of straight instructions
def mi_at (tb : List (Nat × Instr)) (pc : Nat) : Option Instr := match tb with
  | [] => none
  | q :: r => if q.1 = pc then some q.2 else mi_at r pc
theorem mi_at_mem {tb : List (Nat × Instr)} {pc : Nat} {i : Instr} (h : mi_at tb pc = some i) : (pc, i) ∈ tb := by
  induction tb with
  | nil => cases h
  | cons q r ih =>
    unfold mi_at at h
    by_cases e : q.1 = pc
    · rw [if_pos e] at h
      cases h
      subst e
      exact List.mem_cons_self
    · rw [if_neg e] at h
      exact List.mem_cons_of_mem _ (ih h)
def mi_run (nL : Nat) (tb : List (Nat × Instr)) : Nat → Nat → mi_L → List Value → mi_O
  | 0, pc, lv, st => some (pc, lv, st)
  | n + 1, pc, lv, st => match mi_at tb pc with
    | none => none
    | some i => match mi_p nL i pc lv st with
      | none => none
      | some z => mi_run nL tb n z.1 z.2.1 z.2.2
def mi_tb (cc : ByteArray) (tb : List (Nat × Instr)) : Prop := ∀ (pc : Nat) (i : Instr), (pc, i) ∈ tb → decode cc pc = .ok (i, mi_len i)
theorem mi_tb.of {cc : ByteArray} {tb : List (Nat × Instr)} (h : ∀ q ∈ tb, decode cc q.1 = .ok (q.2, mi_len q.2)) : mi_tb cc tb := fun pc i hm => h (pc, i) hm
theorem mi_run_W {p : Program} {l : Launch} {e : Env} {R : Room} {s : State} {m : MethodId} {args : Array Value} {below : List Frame} {meth : Method} {c : Code} {H : Heap} {locs : List Loc} {cells slots : Nat} {Q : State → Prop} {ad : Nat → Nat} {cc : ByteArray} {nL : Nat} {tb : List (Nat × Instr)} (ht : mi_tb cc tb) (hx : p.tables.exec = Jvm.exec) (hb : c.code = cc) {pc' : Nat} {lv' : mi_L} {st' : List Value}
    (kk : ∀ ls' : Array Slot, lv_has ls' nL (mi_lv ad lv') → W p l e R s m args below meth c H locs cells slots Q (F0 m pc' ls' (st'.map (mi_V ad)))) : ∀ (n pc : Nat) (lv : mi_L) (st : List Value) (ls : Array Slot), mi_run nL tb n pc lv st = some (pc', lv', st') → lv_has ls nL (mi_lv ad lv) → W p l e R s m args below meth c H locs cells slots Q (F0 m pc ls (st.map (mi_V ad)))
  | 0, pc, lv, st, ls, hr, hl => by
    cases hr
    exact kk ls hl
  | n + 1, pc, lv, st, ls, hr, hl => by
    unfold mi_run at hr
    split at hr
    next => cases hr
    next i e1 =>
      split at hr
      next => cases hr
      next z e2 =>
        exact mi_p_W (ad := ad) (cc := cc) (nL := nL) (i := i) (pc := pc) (lv := lv) (st := st) (z := z) (ls := ls) hx hb (ht pc i (mi_at_mem e1)) e2 hl (fun ls' hl' => mi_run_W ht hx hb kk n z.1 z.2.1 z.2.2 ls' hr hl')
theorem mi_blk {QX : Nat → Nat → mi_H → Prop} {P : mi_P} {X : mi_X} {k d mc ms pc pc' : Nat} {lv lv' : mi_L} {st st' : List Value} {h : mi_H} {Q : Option Value → mi_H → Prop} {tb : List (Nat × Instr)} (ht : mi_tb (P.2.2.2.1 k).2.1 tb) (n : Nat) (hr : mi_run (P.2.2.2.1 k).2.2.1 tb n pc lv st = some (pc', lv', st'))
    (w : mi_WX QX P X k d mc ms pc' lv' st' h Q) : mi_WX QX P X k d mc ms pc lv st h Q := by
  intro p l e R s m args below meth c H locs cells slots Z D dA b0 xa ls F hS hc hs hR hl hZ
  exact mi_run_W ht F.1 F.2.1 (fun ls' hl' => w p l e R s m args below meth c H locs cells slots Z D dA b0 xa ls' F hS hc hs hR hl' hZ) n pc lv st ls hr hl
end
section
-- cells read and written
/-- a kind of objects of the program: its place, name, fields, their number and types -/
def mi_cf (P : mi_P) (ci : Nat) (C : String) (T : u_T) (N : Nat) (ty0 : Nat → FieldType) : Prop := P.1[ci]? = some (C, T, N) ∧ (∀ w ∈ u_ws C T N, w ∈ P.2.1) ∧ (∀ k, k < N → parseFieldDescriptor (T k).2.2.1 = some (ty0 k)) ∧ ∀ a, a < N → ∀ b, b < N → a ≠ b → (T a).2.1 ≠ (T b).2.1
/-- the entry 'index' of own's pool is the field j of the kind ci -/
def mi_fd (P : mi_P) (own : String) (index ci j : Nat) (fin : Bool) (ty : FieldType) : Prop := ∃ (C : String) (T : u_T) (N : Nat) (ty0 : Nat → FieldType), mi_cf P ci C T N ty0 ∧ j < N ∧ (T j).2.2.2 = fin ∧ ty0 j = ty ∧
  (Cond.fieldLink own index (T j).1 (T j).2.1 (T j).2.2.1 ∈ P.2.1 ∨ ∃ host, Cond.fieldLinkNest own index (T j).1 (T j).2.1 (T j).2.2.1 host ∈ P.2.2.1) ∧ (fin = true → (T j).1 = own ∧ Cond.fieldLink own index (T j).1 (T j).2.1 (T j).2.2.1 ∈ P.2.1)
/-- ... to be read -/
def mi_fg (P : mi_P) (own : String) (index ci j : Nat) : Prop := ∃ (C : String) (T : u_T) (N : Nat) (ty0 : Nat → FieldType), mi_cf P ci C T N ty0 ∧ j < N ∧ (Cond.fieldLink own index (T j).1 (T j).2.1 (T j).2.2.1 ∈ P.2.1 ∨ ∃ host, Cond.fieldLinkNest own index (T j).1 (T j).2.1 (T j).2.2.1 host ∈ P.2.2.1)
theorem mi_tys_at {P : mi_P} {dA : Nat → ClassId} {t : Nat} {ty : FieldType} (h : P.2.2.2.2.1[t]? = some ty) : (mi_tys P dA)[t]? = some (dA t, ty) := by
  unfold mi_tys
  rw [List.getElem?_map, List.getElem?_zipIdx, h]
  simp
theorem mi_narrow {ty : FieldType} {v : Value} (ad : Nat → Nat) (h : narrow ty v = v) : narrow ty (mi_V ad v) = mi_V ad v := by
  cases v <;> first | exact h | (cases ty <;> rfl)
theorem mi_fits {ty : FieldType} {v : Value} (ad : Nat → Nat) (h : fits ty v = true) : fits ty (mi_V ad v) = true := by
  cases v <;> first | exact h | (cases ty <;> first | rfl | exact h)
theorem mi_R.put {P : mi_P} {D : va_G} {dA : Nat → ClassId} {b0 : Nat} {xa : Nat → Nat} {H H1 : Heap} {h : mi_H} {a : Nat} (hR : mi_R P D dA b0 xa H h) (hE : P.2.2.2.2.2.1 ≤ a) (ha : a < h.1) (c : mi_C) (e : va_at D P.1 (mi_ad P.2.2.2.2.2.1 b0 xa a, mi_e dA (mi_ad P.2.2.2.2.2.1 b0 xa) c) H1) (z : H1.size = H.size) (oq : ∀ q : Nat, q ≠ mi_ad P.2.2.2.2.2.1 b0 xa a → H1[q]? = H[q]?) : mi_R P D dA b0 xa H1 (h.1, va_up h.2 a c) := by
  obtain ⟨h1, h2, h3⟩ := hR
  refine ⟨h1, z.trans h2, ?_⟩
  rw [← mi_w_set hE ha c]
  exact h3.set mi_w_D (mi_w_at hE ha) e oq
theorem mi_ad_in {E b0 : Nat} {xa : Nat → Nat} {a : Nat} (h : E ≤ a) : b0 ≤ mi_ad E b0 xa a := by
  unfold mi_ad
  rw [if_neg (by omega)]
  omega
section MIH
variable {QX : Nat → Nat → mi_H → Prop} {P : mi_P} {X : mi_X} {k d mc ms pc : Nat} {lv : mi_L} {st : List Value} {h : mi_H} {Q : Option Value → mi_H → Prop} {tb : List (Nat × Instr)}
set_option maxHeartbeats 4000000 in
theorem mi_getf (ht : mi_tb (P.2.2.2.1 k).2.1 tb) {index ci j a : Nat} {fs : List Value} {v : Value} (hi : mi_at tb pc = some (.getfield index)) (fd : mi_fg P (P.2.2.2.1 k).1.cls index ci j) (hE : P.2.2.2.2.2.1 ≤ a) (ha : a < h.1) (hc : h.2 a = .inr (ci, fs)) (hv : fs[j]? = some v)
    (w : mi_WX QX P X k d mc ms (pc + 3) lv (v :: st) h Q) : mi_WX QX P X k d mc ms pc lv (.ref a :: st) h Q := by
  intro p l e R s m args below meth c H locs cells slots Z D dA b0 xa ls F hS hmc hms hR hl hZ
  obtain ⟨C, T, N, ty0, ⟨c1, c2, c3, c4⟩, f1, f4⟩ := fd
  have hw := w p l e R s m args below meth c H locs cells slots Z D dA b0 xa ls F hS hmc hms hR hl hZ
  obtain ⟨hx, hb, hml, hown, hts, hnm, -, -, -, -, hz0, hK, -, -, hN⟩ := F
  have hd := ht pc _ (mi_at_mem hi)
  have he := mi_w_at (dA := dA) (E := P.2.2.2.2.2.1) (b0 := b0) (xa := xa) (h := h) hE ha
  rw [hc] at he
  have hv' : (fs.map (mi_V (mi_ad P.2.2.2.2.2.1 b0 xa)))[j]? = some (mi_V (mi_ad P.2.2.2.2.2.1 b0 xa) v) := by rw [List.getElem?_map, hv]; rfl
  rcases f4 with f4 | ⟨host, f4⟩
  · exact va_get hx hb hts c2 hown hK hR.2.2 (a - P.2.2.2.2.2.1) he c1 j f1 (hts _ f4) (fun _ q => q) hv' hd hw
  · exact va_getN hx hb hts c2 hown hK hR.2.2 (a - P.2.2.2.2.2.1) he c1 j f1 (va_Nw.use rfl (hN _ f4)) (fun _ q => q) hv' hd hw
set_option maxHeartbeats 4000000 in
theorem mi_putf (ht : mi_tb (P.2.2.2.1 k).2.1 tb) {index ci j a : Nat} {ty : FieldType} {fs : List Value} {v : Value} (hi : mi_at tb pc = some (.putfield index)) (fd : mi_fd P (P.2.2.2.1 k).1.cls index ci j false ty) (hE : P.2.2.2.2.2.1 ≤ a) (ha : a < h.1) (hc : h.2 a = .inr (ci, fs)) (hj : j < fs.length) (hn : narrow ty v = v) (hf : fits ty v = true)
    (w : mi_WX QX P X k d mc ms (pc + 3) lv st (h.1, va_up h.2 a (.inr (ci, fs.set j v))) Q) : mi_WX QX P X k d mc ms pc lv (v :: .ref a :: st) h Q := by
  intro p l e R s m args below meth c H locs cells slots Z D dA b0 xa ls F hS hmc hms hR hl hZ
  obtain ⟨C, T, N, ty0, ⟨c1, c2, c3, c4⟩, f1, f2, f3, f4, -⟩ := fd
  have F0' := F
  obtain ⟨hx, hb, hml, hown, hts, hnm, -, -, -, -, hz0, hK, -, -, hN⟩ := F
  have hd := ht pc _ (mi_at_mem hi)
  have he := mi_w_at (dA := dA) (E := P.2.2.2.2.2.1) (b0 := b0) (xa := xa) (h := h) hE ha
  rw [hc] at he
  have hap := va_apart (own := (P.2.2.2.1 k).1.cls) hts c2 ty0 c3 c4 hK c1
  obtain ⟨r, h1, cell, q1, q2, q3, q4⟩ := hR.2.2 _ _ he
  have hr : r = (C, T, N) := Option.some.inj (h1.symm.trans c1)
  subst hr
  obtain ⟨hSf, hfc, kC, hkC, hkind⟩ := hK.1 ci _ c1
  obtain ⟨cf, kf, fi, f, hff, hsl⟩ := hSf j f1
  have hlay := hts _ (c2 _ (u_in_lay f1))
  unfold u_lay at hlay
  rw [if_neg (by rw [f2]; decide)] at hlay
  have hst := (u_facts hfc hkC (u_lays hts c2 f1) hff).1
  have h6 := u_store hfc hkC hkind hlay hff (by rw [c3 j f1, f3]) (mi_narrow (mi_ad P.2.2.2.2.2.1 b0 xa) hn) (mi_fits (mi_ad P.2.2.2.2.2.1 b0 xa) hf)
  have hlen : j < (fs.map (mi_V (mi_ad P.2.2.2.2.2.1 b0 xa))).length := by rw [List.length_map]; exact hj
  have kk : ∀ H' : Heap, H'[mi_ad P.2.2.2.2.2.1 b0 xa a]? = some (cell.setSlot f.slot (mi_V (mi_ad P.2.2.2.2.2.1 b0 xa) v)) → H'.size = H.size → (∀ q, q ≠ mi_ad P.2.2.2.2.2.1 b0 xa a → H'[q]? = H[q]?) → W p l e R s m args below meth c H' (locs ++ [⟨mi_ad P.2.2.2.2.2.1 b0 xa a, f.slot⟩]) cells slots Z (F0 m (pc + 3) ls (st.map (mi_V (mi_ad P.2.2.2.2.2.1 b0 xa)))) := by
    intro H' e1 e2 e3
    rw [hsl] at e1 ⊢
    refine w p l e R s m args below meth c H' _ cells slots Z D dA b0 xa ls F0' (hS.put e2 e3 (mi_ad_in hE)) hmc hms (hR.put hE ha _ ?_ e2 e3) hl hZ
    show va_at D P.1 (_, .inr (ci, (fs.set j v).map (mi_V (mi_ad P.2.2.2.2.2.1 b0 xa)))) H'
    rw [List.map_set]
    exact ⟨_, c1, t_OB.to (V := updV (vp_V _) j (mi_V (mi_ad P.2.2.2.2.2.1 b0 xa) v)) ⟨_, e1, q2, q3, t_set q4 hap f1 _⟩ (fun i _ => vp_updV_set hlen _ i)⟩
  rcases f4 with f4 | ⟨host, f4⟩
  · exact W.putK hx hb (f := f) ⟨hown, hts _ f4, ⟨_, _, _, hff⟩, hst⟩ (by rw [q2]; exact h6) q1 q3 (by rw [hsl]; exact k2_hasslot (q4 j f1)) rfl rfl hd kk
  · exact va_WputK hx hb (f := f) hown (va_Nw.use rfl (hN _ f4)) hff hst (by rw [q2]; exact h6) q1 q3 (by rw [hsl]; exact k2_hasslot (q4 j f1)) rfl rfl hd kk
set_option maxHeartbeats 4000000 in
theorem mi_putF (ht : mi_tb (P.2.2.2.1 k).2.1 tb) {index ci j a : Nat} {ty : FieldType} {fs : List Value} {v : Value} (hi : mi_at tb pc = some (.putfield index)) (fd : mi_fd P (P.2.2.2.1 k).1.cls index ci j true ty) (hnam : (P.2.2.2.1 k).1.name = "<init>") (hE : P.2.2.2.2.2.1 ≤ a) (ha : a < h.1) (hc : h.2 a = .inr (ci, fs)) (hj : j < fs.length) (hn : narrow ty v = v) (hf : fits ty v = true)
    (w : mi_WX QX P X k d mc ms (pc + 3) lv st (h.1, va_up h.2 a (.inr (ci, fs.set j v))) Q) : mi_WX QX P X k d mc ms pc lv (v :: .ref a :: st) h Q := by
  intro p l e R s m args below meth c H locs cells slots Z D dA b0 xa ls F hS hmc hms hR hl hZ
  obtain ⟨C, T, N, ty0, ⟨c1, c2, c3, c4⟩, f1, f2, f3, -, f5⟩ := fd
  obtain ⟨f5, f6⟩ := f5 rfl
  have F0' := F
  obtain ⟨hx, hb, hml, hown, hts, hnm, -, -, -, -, hz0, hK, -, -, hN⟩ := F
  have hd := ht pc _ (mi_at_mem hi)
  have he := mi_w_at (dA := dA) (E := P.2.2.2.2.2.1) (b0 := b0) (xa := xa) (h := h) hE ha
  rw [hc] at he
  have hap := va_apart (own := (P.2.2.2.1 k).1.cls) hts c2 ty0 c3 c4 hK c1
  obtain ⟨r, h1, cell, q1, q2, q3, q4⟩ := hR.2.2 _ _ he
  have hr : r = (C, T, N) := Option.some.inj (h1.symm.trans c1)
  subst hr
  obtain ⟨hSf, hfc, kC, hkC, hkind⟩ := hK.1 ci _ c1
  obtain ⟨cf, kf, fi, f, hff, hsl⟩ := hSf j f1
  have hlay := hts _ (c2 _ (u_in_lay f1))
  unfold u_lay at hlay
  rw [if_pos f2] at hlay
  have hst := (u_facts hfc hkC (u_lays hts c2 f1) hff).1
  have hcf : m.cls = cf := by
    obtain ⟨_, _, c', _, _, _, -, -, hf', -, -, -, hown2, -⟩ := Cond.laysFinal_spec hlay
    have e1 : c' = cf := by have := hff.symm.trans hf'; simp at this; exact this.1.symm
    rw [f5] at hown2
    rw [← e1]; exact Option.some.inj (hown.symm.trans hown2)
  have h6 := u_fits hfc hkC hkind (Or.inr hlay) hff (by rw [c3 j f1, f3]) (mi_narrow (mi_ad P.2.2.2.2.2.1 b0 xa) hn) (mi_fits (mi_ad P.2.2.2.2.2.1 b0 xa) hf)
  have hlen : j < (fs.map (mi_V (mi_ad P.2.2.2.2.2.1 b0 xa))).length := by rw [List.length_map]; exact hj
  refine W.putFinK hx hb hown (hts _ f6) hff hst hcf (hnm.1 hnam) (by rw [q2]; exact h6) q1 q3 (by rw [hsl]; exact k2_hasslot (q4 j f1)) rfl rfl hd fun H' e1 e2 e3 => ?_
  rw [hsl] at e1 ⊢
  refine w p l e R s m args below meth c H' _ cells slots Z D dA b0 xa ls F0' (hS.put e2 e3 (mi_ad_in hE)) hmc hms (hR.put hE ha _ ?_ e2 e3) hl hZ
  show va_at D P.1 (_, .inr (ci, (fs.set j v).map (mi_V (mi_ad P.2.2.2.2.2.1 b0 xa)))) H'
  rw [List.map_set]
  exact ⟨_, c1, t_OB.to (V := updV (vp_V _) j (mi_V (mi_ad P.2.2.2.2.2.1 b0 xa) v)) ⟨_, e1, q2, q3, t_set q4 hap f1 _⟩ (fun i _ => vp_updV_set hlen _ i)⟩
end MIH
end
section
section MIR
variable {QX : Nat → Nat → mi_H → Prop} {P : mi_P} {X : mi_X} {k d mc ms pc : Nat} {lv : mi_L} {st : List Value} {h : mi_H} {Q : Option Value → mi_H → Prop} {tb : List (Nat × Instr)}
theorem mi_if_eq (ht : mi_tb (P.2.2.2.1 k).2.1 tb) {x : Int32} {off : Int} {tgt : Nat} (hi : mi_at tb pc = some (.ifCond .eq off)) (hj : mi_jump pc off = some tgt) (kt : x = 0 → mi_WX QX P X k d mc ms tgt lv st h Q) (kf : ¬ x = 0 → mi_WX QX P X k d mc ms (pc + 3) lv st h Q) : mi_WX QX P X k d mc ms pc lv (.int x :: st) h Q := by
  intro p l e R s m args below meth c H locs cells slots Z D dA b0 xa ls F hS hmc hms hR hl hZ
  exact lv_if_eq F.1 F.2.1 (ht pc _ (mi_at_mem hi)) (mi_jump_eq hj) (fun q => kt q p l e R s m args below meth c H locs cells slots Z D dA b0 xa ls F hS hmc hms hR hl hZ) (fun q => kf q p l e R s m args below meth c H locs cells slots Z D dA b0 xa ls F hS hmc hms hR hl hZ)
theorem mi_ic_eq (ht : mi_tb (P.2.2.2.1 k).2.1 tb) {x y : Int32} {off : Int} {tgt : Nat} (hi : mi_at tb pc = some (.if_icmp .eq off)) (hj : mi_jump pc off = some tgt) (kt : x = y → mi_WX QX P X k d mc ms tgt lv st h Q) (kf : ¬ x = y → mi_WX QX P X k d mc ms (pc + 3) lv st h Q) : mi_WX QX P X k d mc ms pc lv (.int y :: .int x :: st) h Q := by
  intro p l e R s m args below meth c H locs cells slots Z D dA b0 xa ls F hS hmc hms hR hl hZ
  exact lv_icmp_eq F.1 F.2.1 (ht pc _ (mi_at_mem hi)) (mi_jump_eq hj) (fun q => kt q p l e R s m args below meth c H locs cells slots Z D dA b0 xa ls F hS hmc hms hR hl hZ) (fun q => kf q p l e R s m args below meth c H locs cells slots Z D dA b0 xa ls F hS hmc hms hR hl hZ)
theorem mi_if_ne (ht : mi_tb (P.2.2.2.1 k).2.1 tb) {x : Int32} {off : Int} {tgt : Nat} (hi : mi_at tb pc = some (.ifCond .ne off)) (hj : mi_jump pc off = some tgt) (kt : ¬ x = 0 → mi_WX QX P X k d mc ms tgt lv st h Q) (kf : x = 0 → mi_WX QX P X k d mc ms (pc + 3) lv st h Q) : mi_WX QX P X k d mc ms pc lv (.int x :: st) h Q := by
  intro p l e R s m args below meth c H locs cells slots Z D dA b0 xa ls F hS hmc hms hR hl hZ
  exact lv_if_ne F.1 F.2.1 (ht pc _ (mi_at_mem hi)) (mi_jump_eq hj) (fun q => kt q p l e R s m args below meth c H locs cells slots Z D dA b0 xa ls F hS hmc hms hR hl hZ) (fun q => kf q p l e R s m args below meth c H locs cells slots Z D dA b0 xa ls F hS hmc hms hR hl hZ)
theorem mi_ic_ne (ht : mi_tb (P.2.2.2.1 k).2.1 tb) {x y : Int32} {off : Int} {tgt : Nat} (hi : mi_at tb pc = some (.if_icmp .ne off)) (hj : mi_jump pc off = some tgt) (kt : ¬ x = y → mi_WX QX P X k d mc ms tgt lv st h Q) (kf : x = y → mi_WX QX P X k d mc ms (pc + 3) lv st h Q) : mi_WX QX P X k d mc ms pc lv (.int y :: .int x :: st) h Q := by
  intro p l e R s m args below meth c H locs cells slots Z D dA b0 xa ls F hS hmc hms hR hl hZ
  exact lv_icmp_ne F.1 F.2.1 (ht pc _ (mi_at_mem hi)) (mi_jump_eq hj) (fun q => kt q p l e R s m args below meth c H locs cells slots Z D dA b0 xa ls F hS hmc hms hR hl hZ) (fun q => kf q p l e R s m args below meth c H locs cells slots Z D dA b0 xa ls F hS hmc hms hR hl hZ)
theorem mi_if_lt (ht : mi_tb (P.2.2.2.1 k).2.1 tb) {x : Int32} {off : Int} {tgt : Nat} (hi : mi_at tb pc = some (.ifCond .lt off)) (hj : mi_jump pc off = some tgt) (kt : x < 0 → mi_WX QX P X k d mc ms tgt lv st h Q) (kf : ¬ x < 0 → mi_WX QX P X k d mc ms (pc + 3) lv st h Q) : mi_WX QX P X k d mc ms pc lv (.int x :: st) h Q := by
  intro p l e R s m args below meth c H locs cells slots Z D dA b0 xa ls F hS hmc hms hR hl hZ
  exact lv_if_lt F.1 F.2.1 (ht pc _ (mi_at_mem hi)) (mi_jump_eq hj) (fun q => kt q p l e R s m args below meth c H locs cells slots Z D dA b0 xa ls F hS hmc hms hR hl hZ) (fun q => kf q p l e R s m args below meth c H locs cells slots Z D dA b0 xa ls F hS hmc hms hR hl hZ)
theorem mi_ic_lt (ht : mi_tb (P.2.2.2.1 k).2.1 tb) {x y : Int32} {off : Int} {tgt : Nat} (hi : mi_at tb pc = some (.if_icmp .lt off)) (hj : mi_jump pc off = some tgt) (kt : x < y → mi_WX QX P X k d mc ms tgt lv st h Q) (kf : ¬ x < y → mi_WX QX P X k d mc ms (pc + 3) lv st h Q) : mi_WX QX P X k d mc ms pc lv (.int y :: .int x :: st) h Q := by
  intro p l e R s m args below meth c H locs cells slots Z D dA b0 xa ls F hS hmc hms hR hl hZ
  exact lv_icmp_lt F.1 F.2.1 (ht pc _ (mi_at_mem hi)) (mi_jump_eq hj) (fun q => kt q p l e R s m args below meth c H locs cells slots Z D dA b0 xa ls F hS hmc hms hR hl hZ) (fun q => kf q p l e R s m args below meth c H locs cells slots Z D dA b0 xa ls F hS hmc hms hR hl hZ)
theorem mi_if_ge (ht : mi_tb (P.2.2.2.1 k).2.1 tb) {x : Int32} {off : Int} {tgt : Nat} (hi : mi_at tb pc = some (.ifCond .ge off)) (hj : mi_jump pc off = some tgt) (kt : 0 ≤ x → mi_WX QX P X k d mc ms tgt lv st h Q) (kf : ¬ 0 ≤ x → mi_WX QX P X k d mc ms (pc + 3) lv st h Q) : mi_WX QX P X k d mc ms pc lv (.int x :: st) h Q := by
  intro p l e R s m args below meth c H locs cells slots Z D dA b0 xa ls F hS hmc hms hR hl hZ
  exact lv_if_ge F.1 F.2.1 (ht pc _ (mi_at_mem hi)) (mi_jump_eq hj) (fun q => kt q p l e R s m args below meth c H locs cells slots Z D dA b0 xa ls F hS hmc hms hR hl hZ) (fun q => kf q p l e R s m args below meth c H locs cells slots Z D dA b0 xa ls F hS hmc hms hR hl hZ)
theorem mi_ic_ge (ht : mi_tb (P.2.2.2.1 k).2.1 tb) {x y : Int32} {off : Int} {tgt : Nat} (hi : mi_at tb pc = some (.if_icmp .ge off)) (hj : mi_jump pc off = some tgt) (kt : y ≤ x → mi_WX QX P X k d mc ms tgt lv st h Q) (kf : ¬ y ≤ x → mi_WX QX P X k d mc ms (pc + 3) lv st h Q) : mi_WX QX P X k d mc ms pc lv (.int y :: .int x :: st) h Q := by
  intro p l e R s m args below meth c H locs cells slots Z D dA b0 xa ls F hS hmc hms hR hl hZ
  exact lv_icmp_ge F.1 F.2.1 (ht pc _ (mi_at_mem hi)) (mi_jump_eq hj) (fun q => kt q p l e R s m args below meth c H locs cells slots Z D dA b0 xa ls F hS hmc hms hR hl hZ) (fun q => kf q p l e R s m args below meth c H locs cells slots Z D dA b0 xa ls F hS hmc hms hR hl hZ)
theorem mi_if_gt (ht : mi_tb (P.2.2.2.1 k).2.1 tb) {x : Int32} {off : Int} {tgt : Nat} (hi : mi_at tb pc = some (.ifCond .gt off)) (hj : mi_jump pc off = some tgt) (kt : 0 < x → mi_WX QX P X k d mc ms tgt lv st h Q) (kf : ¬ 0 < x → mi_WX QX P X k d mc ms (pc + 3) lv st h Q) : mi_WX QX P X k d mc ms pc lv (.int x :: st) h Q := by
  intro p l e R s m args below meth c H locs cells slots Z D dA b0 xa ls F hS hmc hms hR hl hZ
  exact lv_if_gt F.1 F.2.1 (ht pc _ (mi_at_mem hi)) (mi_jump_eq hj) (fun q => kt q p l e R s m args below meth c H locs cells slots Z D dA b0 xa ls F hS hmc hms hR hl hZ) (fun q => kf q p l e R s m args below meth c H locs cells slots Z D dA b0 xa ls F hS hmc hms hR hl hZ)
theorem mi_ic_gt (ht : mi_tb (P.2.2.2.1 k).2.1 tb) {x y : Int32} {off : Int} {tgt : Nat} (hi : mi_at tb pc = some (.if_icmp .gt off)) (hj : mi_jump pc off = some tgt) (kt : y < x → mi_WX QX P X k d mc ms tgt lv st h Q) (kf : ¬ y < x → mi_WX QX P X k d mc ms (pc + 3) lv st h Q) : mi_WX QX P X k d mc ms pc lv (.int y :: .int x :: st) h Q := by
  intro p l e R s m args below meth c H locs cells slots Z D dA b0 xa ls F hS hmc hms hR hl hZ
  exact lv_icmp_gt F.1 F.2.1 (ht pc _ (mi_at_mem hi)) (mi_jump_eq hj) (fun q => kt q p l e R s m args below meth c H locs cells slots Z D dA b0 xa ls F hS hmc hms hR hl hZ) (fun q => kf q p l e R s m args below meth c H locs cells slots Z D dA b0 xa ls F hS hmc hms hR hl hZ)
theorem mi_if_le (ht : mi_tb (P.2.2.2.1 k).2.1 tb) {x : Int32} {off : Int} {tgt : Nat} (hi : mi_at tb pc = some (.ifCond .le off)) (hj : mi_jump pc off = some tgt) (kt : x ≤ 0 → mi_WX QX P X k d mc ms tgt lv st h Q) (kf : ¬ x ≤ 0 → mi_WX QX P X k d mc ms (pc + 3) lv st h Q) : mi_WX QX P X k d mc ms pc lv (.int x :: st) h Q := by
  intro p l e R s m args below meth c H locs cells slots Z D dA b0 xa ls F hS hmc hms hR hl hZ
  exact lv_if_le F.1 F.2.1 (ht pc _ (mi_at_mem hi)) (mi_jump_eq hj) (fun q => kt q p l e R s m args below meth c H locs cells slots Z D dA b0 xa ls F hS hmc hms hR hl hZ) (fun q => kf q p l e R s m args below meth c H locs cells slots Z D dA b0 xa ls F hS hmc hms hR hl hZ)
theorem mi_ic_le (ht : mi_tb (P.2.2.2.1 k).2.1 tb) {x y : Int32} {off : Int} {tgt : Nat} (hi : mi_at tb pc = some (.if_icmp .le off)) (hj : mi_jump pc off = some tgt) (kt : x ≤ y → mi_WX QX P X k d mc ms tgt lv st h Q) (kf : ¬ x ≤ y → mi_WX QX P X k d mc ms (pc + 3) lv st h Q) : mi_WX QX P X k d mc ms pc lv (.int y :: .int x :: st) h Q := by
  intro p l e R s m args below meth c H locs cells slots Z D dA b0 xa ls F hS hmc hms hR hl hZ
  exact lv_icmp_le F.1 F.2.1 (ht pc _ (mi_at_mem hi)) (mi_jump_eq hj) (fun q => kt q p l e R s m args below meth c H locs cells slots Z D dA b0 xa ls F hS hmc hms hR hl hZ) (fun q => kf q p l e R s m args below meth c H locs cells slots Z D dA b0 xa ls F hS hmc hms hR hl hZ)
theorem mi_ifnull_r (ht : mi_tb (P.2.2.2.1 k).2.1 tb) {a : Nat} {off : Int} (hi : mi_at tb pc = some (.ifnull off)) (kk : mi_WX QX P X k d mc ms (pc + 3) lv st h Q) : mi_WX QX P X k d mc ms pc lv (.ref a :: st) h Q := by
  intro p l e R s m args below meth c H locs cells slots Z D dA b0 xa ls F hS hmc hms hR hl hZ
  exact lv_ifnull F.1 F.2.1 (ht pc _ (mi_at_mem hi)) (kk p l e R s m args below meth c H locs cells slots Z D dA b0 xa ls F hS hmc hms hR hl hZ)
theorem mi_ifnull_n (ht : mi_tb (P.2.2.2.1 k).2.1 tb) {off : Int} {tgt : Nat} (hi : mi_at tb pc = some (.ifnull off)) (hj : mi_jump pc off = some tgt) (kk : mi_WX QX P X k d mc ms tgt lv st h Q) : mi_WX QX P X k d mc ms pc lv (.null :: st) h Q := by
  intro p l e R s m args below meth c H locs cells slots Z D dA b0 xa ls F hS hmc hms hR hl hZ
  exact lv_ifnullN F.1 F.2.1 (ht pc _ (mi_at_mem hi)) (mi_jump_eq hj) (kk p l e R s m args below meth c H locs cells slots Z D dA b0 xa ls F hS hmc hms hR hl hZ)
theorem mi_ifnonnull_r (ht : mi_tb (P.2.2.2.1 k).2.1 tb) {a : Nat} {off : Int} {tgt : Nat} (hi : mi_at tb pc = some (.ifnonnull off)) (hj : mi_jump pc off = some tgt) (kk : mi_WX QX P X k d mc ms tgt lv st h Q) : mi_WX QX P X k d mc ms pc lv (.ref a :: st) h Q := by
  intro p l e R s m args below meth c H locs cells slots Z D dA b0 xa ls F hS hmc hms hR hl hZ
  exact lv_ifnonnull F.1 F.2.1 (ht pc _ (mi_at_mem hi)) (mi_jump_eq hj) (kk p l e R s m args below meth c H locs cells slots Z D dA b0 xa ls F hS hmc hms hR hl hZ)
theorem mi_ifnonnull_n (ht : mi_tb (P.2.2.2.1 k).2.1 tb) {off : Int} (hi : mi_at tb pc = some (.ifnonnull off)) (kk : mi_WX QX P X k d mc ms (pc + 3) lv st h Q) : mi_WX QX P X k d mc ms pc lv (.null :: st) h Q := by
  intro p l e R s m args below meth c H locs cells slots Z D dA b0 xa ls F hS hmc hms hR hl hZ
  exact lv_ifnonnullN F.1 F.2.1 (ht pc _ (mi_at_mem hi)) (kk p l e R s m args below meth c H locs cells slots Z D dA b0 xa ls F hS hmc hms hR hl hZ)
theorem mi_swout {dflt lo hi : Int} {offs : Array Int} {len : Nat} {x : Int32} {tgt : Nat} (hdg : decode (P.2.2.2.1 k).2.1 pc = .ok (.tableswitch dflt lo hi offs, len)) (hx : x.toInt < lo ∨ hi < x.toInt) (hj : mi_jump pc dflt = some tgt) (kk : mi_WX QX P X k d mc ms tgt lv st h Q) : mi_WX QX P X k d mc ms pc lv (.int x :: st) h Q := by
  intro p l e R s m args below meth c H locs cells slots Z D dA b0 xa ls F hS hmc hms hR hl hZ
  exact lv_tableOut F.1 F.2.1 hdg hx (mi_jump_eq hj) (kk p l e R s m args below meth c H locs cells slots Z D dA b0 xa ls F hS hmc hms hR hl hZ)
theorem mi_swin {dflt lo hi : Int} {offs : Array Int} {len : Nat} {x : Int32} {off : Int} {tgt : Nat} (hdg : decode (P.2.2.2.1 k).2.1 pc = .ok (.tableswitch dflt lo hi offs, len)) (h1 : ¬ x.toInt < lo) (h2 : ¬ hi < x.toInt) (ho : offs[(x.toInt - lo).toNat]? = some off) (hj : mi_jump pc off = some tgt) (kk : mi_WX QX P X k d mc ms tgt lv st h Q) : mi_WX QX P X k d mc ms pc lv (.int x :: st) h Q := by
  intro p l e R s m args below meth c H locs cells slots Z D dA b0 xa ls F hS hmc hms hR hl hZ
  exact lv_tableIn F.1 F.2.1 hdg h1 h2 ho (mi_jump_eq hj) (kk p l e R s m args below meth c H locs cells slots Z D dA b0 xa ls F hS hmc hms hR hl hZ)
theorem mi_ldc (ht : mi_tb (P.2.2.2.1 k).2.1 tb) {index : Nat} {v : Int32} (hi : mi_at tb pc = some (.ldc index)) (hc : Jvm.Cond.constant (P.2.2.2.1 k).1.cls index v ∈ P.2.1) (kk : mi_WX QX P X k d mc ms (pc + 2) lv (.int v :: st) h Q) : mi_WX QX P X k d mc ms pc lv st h Q := by
  intro p l e R s m args below meth c H locs cells slots Z D dA b0 xa ls F hS hmc hms hR hl hZ
  exact lv_ldc F.1 F.2.1 F.2.2.2.1 (F.2.2.2.2.1 _ hc) (ht pc _ (mi_at_mem hi)) (kk p l e R s m args below meth c H locs cells slots Z D dA b0 xa ls F hS hmc hms hR hl hZ)
theorem mi_ldcw (ht : mi_tb (P.2.2.2.1 k).2.1 tb) {index : Nat} {v : Int32} (hi : mi_at tb pc = some (.ldc_w index)) (hc : Jvm.Cond.constant (P.2.2.2.1 k).1.cls index v ∈ P.2.1) (kk : mi_WX QX P X k d mc ms (pc + 3) lv (.int v :: st) h Q) : mi_WX QX P X k d mc ms pc lv st h Q := by
  intro p l e R s m args below meth c H locs cells slots Z D dA b0 xa ls F hS hmc hms hR hl hZ
  exact lv_ldcw F.1 F.2.1 F.2.2.2.1 (F.2.2.2.2.1 _ hc) (ht pc _ (mi_at_mem hi)) (kk p l e R s m args below meth c H locs cells slots Z D dA b0 xa ls F hS hmc hms hR hl hZ)
theorem mi_ldcf (ht : mi_tb (P.2.2.2.1 k).2.1 tb) {index : Nat} {v : UInt32} (hi : mi_at tb pc = some (.ldc index)) (hc : Jvm.Cond.constantFloat (P.2.2.2.1 k).1.cls index v ∈ P.2.1) (kk : mi_WX QX P X k d mc ms (pc + 2) lv (.float v :: st) h Q) : mi_WX QX P X k d mc ms pc lv st h Q := by
  intro p l e R s m args below meth c H locs cells slots Z D dA b0 xa ls F hS hmc hms hR hl hZ
  exact lv_ldcf F.1 F.2.1 F.2.2.2.1 (F.2.2.2.2.1 _ hc) (ht pc _ (mi_at_mem hi)) (kk p l e R s m args below meth c H locs cells slots Z D dA b0 xa ls F hS hmc hms hR hl hZ)
theorem mi_ldc2 (ht : mi_tb (P.2.2.2.1 k).2.1 tb) {index : Nat} {v : Int64} (hi : mi_at tb pc = some (.ldc2_w index)) (hc : Jvm.Cond.constantLong (P.2.2.2.1 k).1.cls index v ∈ P.2.1) (kk : mi_WX QX P X k d mc ms (pc + 3) lv (.long v :: st) h Q) : mi_WX QX P X k d mc ms pc lv st h Q := by
  intro p l e R s m args below meth c H locs cells slots Z D dA b0 xa ls F hS hmc hms hR hl hZ
  exact lv_ldc2 F.1 F.2.1 F.2.2.2.1 (F.2.2.2.2.1 _ hc) (ht pc _ (mi_at_mem hi)) (kk p l e R s m args below meth c H locs cells slots Z D dA b0 xa ls F hS hmc hms hR hl hZ)
theorem mi_ldc2d (ht : mi_tb (P.2.2.2.1 k).2.1 tb) {index : Nat} {v : UInt64} (hi : mi_at tb pc = some (.ldc2_w index)) (hc : Jvm.Cond.constantDouble (P.2.2.2.1 k).1.cls index v ∈ P.2.1) (kk : mi_WX QX P X k d mc ms (pc + 3) lv (.double v :: st) h Q) : mi_WX QX P X k d mc ms pc lv st h Q := by
  intro p l e R s m args below meth c H locs cells slots Z D dA b0 xa ls F hS hmc hms hR hl hZ
  exact lv_ldc2d F.1 F.2.1 F.2.2.2.1 (F.2.2.2.2.1 _ hc) (ht pc _ (mi_at_mem hi)) (kk p l e R s m args below meth c H locs cells slots Z D dA b0 xa ls F hS hmc hms hR hl hZ)
theorem mi_idiv (ht : mi_tb (P.2.2.2.1 k).2.1 tb) {x y : Int32} (hi : mi_at tb pc = some .idiv) (hne : ¬ y = 0) (kk : mi_WX QX P X k d mc ms (pc + 1) lv (.int (x / y) :: st) h Q) : mi_WX QX P X k d mc ms pc lv (.int y :: .int x :: st) h Q := by
  intro p l e R s m args below meth c H locs cells slots Z D dA b0 xa ls F hS hmc hms hR hl hZ
  exact lv_idiv F.1 F.2.1 (ht pc _ (mi_at_mem hi)) hne (kk p l e R s m args below meth c H locs cells slots Z D dA b0 xa ls F hS hmc hms hR hl hZ)
theorem mi_irem (ht : mi_tb (P.2.2.2.1 k).2.1 tb) {x y : Int32} (hi : mi_at tb pc = some .irem) (hne : ¬ y = 0) (kk : mi_WX QX P X k d mc ms (pc + 1) lv (.int (x - x / y * y) :: st) h Q) : mi_WX QX P X k d mc ms pc lv (.int y :: .int x :: st) h Q := by
  intro p l e R s m args below meth c H locs cells slots Z D dA b0 xa ls F hS hmc hms hR hl hZ
  exact lv_irem F.1 F.2.1 (ht pc _ (mi_at_mem hi)) hne (kk p l e R s m args below meth c H locs cells slots Z D dA b0 xa ls F hS hmc hms hR hl hZ)
theorem mi_ldiv (ht : mi_tb (P.2.2.2.1 k).2.1 tb) {x y : Int64} (hi : mi_at tb pc = some .ldiv) (hne : ¬ y = 0) (kk : mi_WX QX P X k d mc ms (pc + 1) lv (.long (x / y) :: st) h Q) : mi_WX QX P X k d mc ms pc lv (.long y :: .long x :: st) h Q := by
  intro p l e R s m args below meth c H locs cells slots Z D dA b0 xa ls F hS hmc hms hR hl hZ
  exact lv_ldiv F.1 F.2.1 (ht pc _ (mi_at_mem hi)) hne (kk p l e R s m args below meth c H locs cells slots Z D dA b0 xa ls F hS hmc hms hR hl hZ)
theorem mi_lrem (ht : mi_tb (P.2.2.2.1 k).2.1 tb) {x y : Int64} (hi : mi_at tb pc = some .lrem) (hne : ¬ y = 0) (kk : mi_WX QX P X k d mc ms (pc + 1) lv (.long (x - x / y * y) :: st) h Q) : mi_WX QX P X k d mc ms pc lv (.long y :: .long x :: st) h Q := by
  intro p l e R s m args below meth c H locs cells slots Z D dA b0 xa ls F hS hmc hms hR hl hZ
  exact lv_lrem F.1 F.2.1 (ht pc _ (mi_at_mem hi)) hne (kk p l e R s m args below meth c H locs cells slots Z D dA b0 xa ls F hS hmc hms hR hl hZ)
theorem mi_dadd (ht : mi_tb (P.2.2.2.1 k).2.1 tb) {x y : UInt64} (hi : mi_at tb pc = some .dadd) (hne : vf_n64 (FP.dadd x y)) (kk : mi_WX QX P X k d mc ms (pc + 1) lv (.double (FP.dadd x y) :: st) h Q) : mi_WX QX P X k d mc ms pc lv (.double y :: .double x :: st) h Q := by
  intro p l e R s m args below meth c H locs cells slots Z D dA b0 xa ls F hS hmc hms hR hl hZ
  exact lv_dadd F.1 F.2.1 (ht pc _ (mi_at_mem hi)) hne (kk p l e R s m args below meth c H locs cells slots Z D dA b0 xa ls F hS hmc hms hR hl hZ)
theorem mi_dsub (ht : mi_tb (P.2.2.2.1 k).2.1 tb) {x y : UInt64} (hi : mi_at tb pc = some .dsub) (hne : vf_n64 (FP.dsub x y)) (kk : mi_WX QX P X k d mc ms (pc + 1) lv (.double (FP.dsub x y) :: st) h Q) : mi_WX QX P X k d mc ms pc lv (.double y :: .double x :: st) h Q := by
  intro p l e R s m args below meth c H locs cells slots Z D dA b0 xa ls F hS hmc hms hR hl hZ
  exact lv_dsub F.1 F.2.1 (ht pc _ (mi_at_mem hi)) hne (kk p l e R s m args below meth c H locs cells slots Z D dA b0 xa ls F hS hmc hms hR hl hZ)
theorem mi_dmul (ht : mi_tb (P.2.2.2.1 k).2.1 tb) {x y : UInt64} (hi : mi_at tb pc = some .dmul) (hne : vf_n64 (FP.dmul x y)) (kk : mi_WX QX P X k d mc ms (pc + 1) lv (.double (FP.dmul x y) :: st) h Q) : mi_WX QX P X k d mc ms pc lv (.double y :: .double x :: st) h Q := by
  intro p l e R s m args below meth c H locs cells slots Z D dA b0 xa ls F hS hmc hms hR hl hZ
  exact lv_dmul F.1 F.2.1 (ht pc _ (mi_at_mem hi)) hne (kk p l e R s m args below meth c H locs cells slots Z D dA b0 xa ls F hS hmc hms hR hl hZ)
theorem mi_ddiv (ht : mi_tb (P.2.2.2.1 k).2.1 tb) {x y : UInt64} (hi : mi_at tb pc = some .ddiv) (hne : vf_n64 (FP.ddiv x y)) (kk : mi_WX QX P X k d mc ms (pc + 1) lv (.double (FP.ddiv x y) :: st) h Q) : mi_WX QX P X k d mc ms pc lv (.double y :: .double x :: st) h Q := by
  intro p l e R s m args below meth c H locs cells slots Z D dA b0 xa ls F hS hmc hms hR hl hZ
  exact lv_ddiv F.1 F.2.1 (ht pc _ (mi_at_mem hi)) hne (kk p l e R s m args below meth c H locs cells slots Z D dA b0 xa ls F hS hmc hms hR hl hZ)
theorem mi_drem (ht : mi_tb (P.2.2.2.1 k).2.1 tb) {x y : UInt64} (hi : mi_at tb pc = some .drem) (hne : vf_n64 (FP.drem x y)) (kk : mi_WX QX P X k d mc ms (pc + 1) lv (.double (FP.drem x y) :: st) h Q) : mi_WX QX P X k d mc ms pc lv (.double y :: .double x :: st) h Q := by
  intro p l e R s m args below meth c H locs cells slots Z D dA b0 xa ls F hS hmc hms hR hl hZ
  exact lv_drem F.1 F.2.1 (ht pc _ (mi_at_mem hi)) hne (kk p l e R s m args below meth c H locs cells slots Z D dA b0 xa ls F hS hmc hms hR hl hZ)
theorem mi_fadd (ht : mi_tb (P.2.2.2.1 k).2.1 tb) {x y : UInt32} (hi : mi_at tb pc = some .fadd) (hne : vf_n32 (FP.fadd x y)) (kk : mi_WX QX P X k d mc ms (pc + 1) lv (.float (FP.fadd x y) :: st) h Q) : mi_WX QX P X k d mc ms pc lv (.float y :: .float x :: st) h Q := by
  intro p l e R s m args below meth c H locs cells slots Z D dA b0 xa ls F hS hmc hms hR hl hZ
  exact lv_fadd F.1 F.2.1 (ht pc _ (mi_at_mem hi)) hne (kk p l e R s m args below meth c H locs cells slots Z D dA b0 xa ls F hS hmc hms hR hl hZ)
theorem mi_fsub (ht : mi_tb (P.2.2.2.1 k).2.1 tb) {x y : UInt32} (hi : mi_at tb pc = some .fsub) (hne : vf_n32 (FP.fsub x y)) (kk : mi_WX QX P X k d mc ms (pc + 1) lv (.float (FP.fsub x y) :: st) h Q) : mi_WX QX P X k d mc ms pc lv (.float y :: .float x :: st) h Q := by
  intro p l e R s m args below meth c H locs cells slots Z D dA b0 xa ls F hS hmc hms hR hl hZ
  exact lv_fsub F.1 F.2.1 (ht pc _ (mi_at_mem hi)) hne (kk p l e R s m args below meth c H locs cells slots Z D dA b0 xa ls F hS hmc hms hR hl hZ)
theorem mi_fmul (ht : mi_tb (P.2.2.2.1 k).2.1 tb) {x y : UInt32} (hi : mi_at tb pc = some .fmul) (hne : vf_n32 (FP.fmul x y)) (kk : mi_WX QX P X k d mc ms (pc + 1) lv (.float (FP.fmul x y) :: st) h Q) : mi_WX QX P X k d mc ms pc lv (.float y :: .float x :: st) h Q := by
  intro p l e R s m args below meth c H locs cells slots Z D dA b0 xa ls F hS hmc hms hR hl hZ
  exact lv_fmul F.1 F.2.1 (ht pc _ (mi_at_mem hi)) hne (kk p l e R s m args below meth c H locs cells slots Z D dA b0 xa ls F hS hmc hms hR hl hZ)
theorem mi_fdiv (ht : mi_tb (P.2.2.2.1 k).2.1 tb) {x y : UInt32} (hi : mi_at tb pc = some .fdiv) (hne : vf_n32 (FP.fdiv x y)) (kk : mi_WX QX P X k d mc ms (pc + 1) lv (.float (FP.fdiv x y) :: st) h Q) : mi_WX QX P X k d mc ms pc lv (.float y :: .float x :: st) h Q := by
  intro p l e R s m args below meth c H locs cells slots Z D dA b0 xa ls F hS hmc hms hR hl hZ
  exact lv_fdiv F.1 F.2.1 (ht pc _ (mi_at_mem hi)) hne (kk p l e R s m args below meth c H locs cells slots Z D dA b0 xa ls F hS hmc hms hR hl hZ)
theorem mi_frem (ht : mi_tb (P.2.2.2.1 k).2.1 tb) {x y : UInt32} (hi : mi_at tb pc = some .frem) (hne : vf_n32 (FP.frem x y)) (kk : mi_WX QX P X k d mc ms (pc + 1) lv (.float (FP.frem x y) :: st) h Q) : mi_WX QX P X k d mc ms pc lv (.float y :: .float x :: st) h Q := by
  intro p l e R s m args below meth c H locs cells slots Z D dA b0 xa ls F hS hmc hms hR hl hZ
  exact lv_frem F.1 F.2.1 (ht pc _ (mi_at_mem hi)) hne (kk p l e R s m args below meth c H locs cells slots Z D dA b0 xa ls F hS hmc hms hR hl hZ)
theorem mi_f2d (ht : mi_tb (P.2.2.2.1 k).2.1 tb) {x : UInt32} (hi : mi_at tb pc = some .f2d) (hne : vf_n64 (FP.f2d x)) (kk : mi_WX QX P X k d mc ms (pc + 1) lv (.double (FP.f2d x) :: st) h Q) : mi_WX QX P X k d mc ms pc lv (.float x :: st) h Q := by
  intro p l e R s m args below meth c H locs cells slots Z D dA b0 xa ls F hS hmc hms hR hl hZ
  exact lv_f2d F.1 F.2.1 (ht pc _ (mi_at_mem hi)) hne (kk p l e R s m args below meth c H locs cells slots Z D dA b0 xa ls F hS hmc hms hR hl hZ)
theorem mi_rf (ad : Nat → Nat) (r : Option Nat) : va_rf (r.map ad) = mi_V ad (va_rf r) := by cases r <;> rfl
theorem mi_iald (ht : mi_tb (P.2.2.2.1 k).2.1 tb) {a t n : Nat} {f : Nat → Int32} {i : Int32} (hi : mi_at tb pc = some .iaload) (htt : P.2.2.2.2.1[t]? = some .int) (hE : P.2.2.2.2.2.1 ≤ a) (ha : a < h.1) (hc : h.2 a = .inl (t, n, .inl f)) (hin : vp_in i n) (kk : mi_WX QX P X k d mc ms (pc + 1) lv (.int (f i.toNatClampNeg) :: st) h Q) : mi_WX QX P X k d mc ms pc lv (.int i :: .ref a :: st) h Q := by
  intro p l e R s m args below meth c H locs cells slots Z D dA b0 xa ls F hS hmc hms hR hl hZ
  have he := mi_w_at (dA := dA) (E := P.2.2.2.2.2.1) (b0 := b0) (xa := xa) (h := h) hE ha
  rw [hc] at he
  exact va_iald F.1 F.2.1 F.2.2.2.2.2.2.2.2.2.2.2.1 hR.2.2 _ t he (mi_tys_at htt) hin (ht pc _ (mi_at_mem hi)) (kk p l e R s m args below meth c H locs cells slots Z D dA b0 xa ls F hS hmc hms hR hl hZ)
set_option maxHeartbeats 4000000 in
theorem mi_iast (ht : mi_tb (P.2.2.2.1 k).2.1 tb) {a t n : Nat} {f : Nat → Int32} {i : Int32} {x : Int32} (hi : mi_at tb pc = some .iastore) (htt : P.2.2.2.2.1[t]? = some .int) (hE : P.2.2.2.2.2.1 ≤ a) (ha : a < h.1) (hc : h.2 a = .inl (t, n, .inl f)) (hin : vp_in i n) (kk : mi_WX QX P X k d mc ms (pc + 1) lv st (h.1, va_up h.2 a (.inl (t, n, .inl (va_up f i.toNatClampNeg x)))) Q) : mi_WX QX P X k d mc ms pc lv (.int x :: .int i :: .ref a :: st) h Q := by
  intro p l e R s m args below meth c H locs cells slots Z D dA b0 xa ls F hS hmc hms hR hl hZ
  have he := mi_w_at (dA := dA) (E := P.2.2.2.2.2.1) (b0 := b0) (xa := xa) (h := h) hE ha
  rw [hc] at he
  refine W.iast F.1 F.2.1 (hR.2.2 _ _ he) ((F.2.2.2.2.2.2.2.2.2.2.2.1.2 t _ (mi_tys_at htt)).1 n (fun j => .int (f j))) (fun q => by cases q) (by show ¬ (i < 0 ∨ (arrV _ _ _).slots.size ≤ _); rw [arrV_size]; exact hin) rfl rfl (ht pc _ (mi_at_mem hi)) fun H1 e1 z oq => ?_
  refine kk p l e R s m args below meth c H1 _ cells slots Z D dA b0 xa ls F (hS.put z oq (mi_ad_in hE)) hmc hms (hR.put hE ha _ ?_ z oq) hl hZ
  show H1[_]? = some (vp_cell (dA t) (n, _))
  rw [e1]
  show some ((arrV (dA t) n (fun j => .int (f j))).setSlot _ _) = some (arrV (dA t) n (fun j => .int (va_up f i.toNatClampNeg x j)))
  rw [arrV_store]
  congr 2
  funext q
  by_cases hq : q = i.toNatClampNeg
  · subst hq
    simp [updV, va_up]
  · simp [updV, va_up, hq]
theorem mi_lald (ht : mi_tb (P.2.2.2.1 k).2.1 tb) {a t n : Nat} {f : Nat → Int64} {i : Int32} (hi : mi_at tb pc = some .laload) (htt : P.2.2.2.2.1[t]? = some .long) (hE : P.2.2.2.2.2.1 ≤ a) (ha : a < h.1) (hc : h.2 a = .inl (t, n, .inr (.inl f))) (hin : vp_in i n) (kk : mi_WX QX P X k d mc ms (pc + 1) lv (.long (f i.toNatClampNeg) :: st) h Q) : mi_WX QX P X k d mc ms pc lv (.int i :: .ref a :: st) h Q := by
  intro p l e R s m args below meth c H locs cells slots Z D dA b0 xa ls F hS hmc hms hR hl hZ
  have he := mi_w_at (dA := dA) (E := P.2.2.2.2.2.1) (b0 := b0) (xa := xa) (h := h) hE ha
  rw [hc] at he
  exact va_lald F.1 F.2.1 F.2.2.2.2.2.2.2.2.2.2.2.1 hR.2.2 _ t he (mi_tys_at htt) hin (ht pc _ (mi_at_mem hi)) (kk p l e R s m args below meth c H locs cells slots Z D dA b0 xa ls F hS hmc hms hR hl hZ)
set_option maxHeartbeats 4000000 in
theorem mi_last (ht : mi_tb (P.2.2.2.1 k).2.1 tb) {a t n : Nat} {f : Nat → Int64} {i : Int32} {x : Int64} (hi : mi_at tb pc = some .lastore) (htt : P.2.2.2.2.1[t]? = some .long) (hE : P.2.2.2.2.2.1 ≤ a) (ha : a < h.1) (hc : h.2 a = .inl (t, n, .inr (.inl f))) (hin : vp_in i n) (kk : mi_WX QX P X k d mc ms (pc + 1) lv st (h.1, va_up h.2 a (.inl (t, n, .inr (.inl (va_up f i.toNatClampNeg x))))) Q) : mi_WX QX P X k d mc ms pc lv (.long x :: .int i :: .ref a :: st) h Q := by
  intro p l e R s m args below meth c H locs cells slots Z D dA b0 xa ls F hS hmc hms hR hl hZ
  have he := mi_w_at (dA := dA) (E := P.2.2.2.2.2.1) (b0 := b0) (xa := xa) (h := h) hE ha
  rw [hc] at he
  refine W.last F.1 F.2.1 (hR.2.2 _ _ he) ((F.2.2.2.2.2.2.2.2.2.2.2.1.2 t _ (mi_tys_at htt)).1 n (fun j => .long (f j))) (fun q => by cases q) (by show ¬ (i < 0 ∨ (arrV _ _ _).slots.size ≤ _); rw [arrV_size]; exact hin) rfl rfl (ht pc _ (mi_at_mem hi)) fun H1 e1 z oq => ?_
  refine kk p l e R s m args below meth c H1 _ cells slots Z D dA b0 xa ls F (hS.put z oq (mi_ad_in hE)) hmc hms (hR.put hE ha _ ?_ z oq) hl hZ
  show H1[_]? = some (vp_cell (dA t) (n, _))
  rw [e1]
  show some ((arrV (dA t) n (fun j => .long (f j))).setSlot _ _) = some (arrV (dA t) n (fun j => .long (va_up f i.toNatClampNeg x j)))
  rw [arrV_store]
  congr 2
  funext q
  by_cases hq : q = i.toNatClampNeg
  · subst hq
    simp [updV, va_up]
  · simp [updV, va_up, hq]
theorem mi_dald (ht : mi_tb (P.2.2.2.1 k).2.1 tb) {a t n : Nat} {f : Nat → UInt64} {i : Int32} (hi : mi_at tb pc = some .daload) (htt : P.2.2.2.2.1[t]? = some .double) (hE : P.2.2.2.2.2.1 ≤ a) (ha : a < h.1) (hc : h.2 a = .inl (t, n, .inr (.inr (.inr (.inl f))))) (hin : vp_in i n) (kk : mi_WX QX P X k d mc ms (pc + 1) lv (.double (f i.toNatClampNeg) :: st) h Q) : mi_WX QX P X k d mc ms pc lv (.int i :: .ref a :: st) h Q := by
  intro p l e R s m args below meth c H locs cells slots Z D dA b0 xa ls F hS hmc hms hR hl hZ
  have he := mi_w_at (dA := dA) (E := P.2.2.2.2.2.1) (b0 := b0) (xa := xa) (h := h) hE ha
  rw [hc] at he
  exact va_dald F.1 F.2.1 F.2.2.2.2.2.2.2.2.2.2.2.1 hR.2.2 _ t he (mi_tys_at htt) hin (ht pc _ (mi_at_mem hi)) (kk p l e R s m args below meth c H locs cells slots Z D dA b0 xa ls F hS hmc hms hR hl hZ)
set_option maxHeartbeats 4000000 in
theorem mi_dast (ht : mi_tb (P.2.2.2.1 k).2.1 tb) {a t n : Nat} {f : Nat → UInt64} {i : Int32} {x : UInt64} (hi : mi_at tb pc = some .dastore) (htt : P.2.2.2.2.1[t]? = some .double) (hE : P.2.2.2.2.2.1 ≤ a) (ha : a < h.1) (hc : h.2 a = .inl (t, n, .inr (.inr (.inr (.inl f))))) (hin : vp_in i n) (kk : mi_WX QX P X k d mc ms (pc + 1) lv st (h.1, va_up h.2 a (.inl (t, n, .inr (.inr (.inr (.inl (va_up f i.toNatClampNeg x))))))) Q) : mi_WX QX P X k d mc ms pc lv (.double x :: .int i :: .ref a :: st) h Q := by
  intro p l e R s m args below meth c H locs cells slots Z D dA b0 xa ls F hS hmc hms hR hl hZ
  have he := mi_w_at (dA := dA) (E := P.2.2.2.2.2.1) (b0 := b0) (xa := xa) (h := h) hE ha
  rw [hc] at he
  refine W.dast F.1 F.2.1 (hR.2.2 _ _ he) ((F.2.2.2.2.2.2.2.2.2.2.2.1.2 t _ (mi_tys_at htt)).1 n (fun j => .double (f j))) (fun q => by cases q) (by show ¬ (i < 0 ∨ (arrV _ _ _).slots.size ≤ _); rw [arrV_size]; exact hin) rfl rfl (ht pc _ (mi_at_mem hi)) fun H1 e1 z oq => ?_
  refine kk p l e R s m args below meth c H1 _ cells slots Z D dA b0 xa ls F (hS.put z oq (mi_ad_in hE)) hmc hms (hR.put hE ha _ ?_ z oq) hl hZ
  show H1[_]? = some (vp_cell (dA t) (n, _))
  rw [e1]
  show some ((arrV (dA t) n (fun j => .double (f j))).setSlot _ _) = some (arrV (dA t) n (fun j => .double (va_up f i.toNatClampNeg x j)))
  rw [arrV_store]
  congr 2
  funext q
  by_cases hq : q = i.toNatClampNeg
  · subst hq
    simp [updV, va_up]
  · simp [updV, va_up, hq]
theorem mi_aald (ht : mi_tb (P.2.2.2.1 k).2.1 tb) {a t n : Nat} {C : String} {f : Nat → Option Nat} {i : Int32} (hi : mi_at tb pc = some .aaload) (htt : P.2.2.2.2.1[t]? = some (.object C)) (hE : P.2.2.2.2.2.1 ≤ a) (ha : a < h.1) (hc : h.2 a = .inl (t, n, .inr (.inr (.inr (.inr f))))) (hin : vp_in i n) (kk : mi_WX QX P X k d mc ms (pc + 1) lv (va_rf (f i.toNatClampNeg) :: st) h Q) : mi_WX QX P X k d mc ms pc lv (.int i :: .ref a :: st) h Q := by
  intro p l e R s m args below meth c H locs cells slots Z D dA b0 xa ls F hS hmc hms hR hl hZ
  have he := mi_w_at (dA := dA) (E := P.2.2.2.2.2.1) (b0 := b0) (xa := xa) (h := h) hE ha
  rw [hc] at he
  refine va_aldq F.1 F.2.1 F.2.2.2.2.2.2.2.2.2.2.2.1 hR.2.2 _ t he (mi_tys_at htt) hin (ht pc _ (mi_at_mem hi)) ?_
  rw [mi_rf]
  exact kk p l e R s m args below meth c H locs cells slots Z D dA b0 xa ls F hS hmc hms hR hl hZ
set_option maxHeartbeats 4000000 in
theorem mi_aast (ht : mi_tb (P.2.2.2.1 k).2.1 tb) {a t n ci v : Nat} {r : vw_C} {vs : List Value} {f : Nat → Option Nat} {i : Int32} (hi : mi_at tb pc = some .aastore) (htt : P.2.2.2.2.1[t]? = some (.object r.1)) (hE : P.2.2.2.2.2.1 ≤ a) (ha : a < h.1) (hc : h.2 a = .inl (t, n, .inr (.inr (.inr (.inr f))))) (hvE : P.2.2.2.2.2.1 ≤ v) (hva : v < h.1) (hv : h.2 v = .inr (ci, vs)) (hr : P.1[ci]? = some r) (hin : vp_in i n) (kk : mi_WX QX P X k d mc ms (pc + 1) lv st (h.1, va_up h.2 a (.inl (t, n, .inr (.inr (.inr (.inr (va_up f i.toNatClampNeg (some v)))))))) Q) : mi_WX QX P X k d mc ms pc lv (.ref v :: .int i :: .ref a :: st) h Q := by
  intro p l e R s m args below meth c H locs cells slots Z D dA b0 xa ls F hS hmc hms hR hl hZ
  have he := mi_w_at (dA := dA) (E := P.2.2.2.2.2.1) (b0 := b0) (xa := xa) (h := h) hE ha
  rw [hc] at he
  have hev := mi_w_at (dA := dA) (E := P.2.2.2.2.2.1) (b0 := b0) (xa := xa) (h := h) hvE hva
  rw [hv] at hev
  have hlt : i.toNatClampNeg < n := Nat.not_le.mp fun q => hin (Or.inr q)
  have h0 : ¬ i < 0 := fun q => hin (Or.inl q)
  have hK := F.2.2.2.2.2.2.2.2.2.2.2.1
  obtain ⟨r', hr', cellV, g1, g2, g3, -⟩ := hR.2.2 _ _ hev
  have hcls := (hK.1 ci r hr).2
  obtain ⟨kA, comp, k1, k2, k3, -⟩ := (hK.2 t _ (mi_tys_at htt)).2
  have hcomp : comp = D.1 ci := Option.some.inj (k3.symm.trans hcls.1)
  subst hcomp
  obtain ⟨kC, hkC, -⟩ := hcls.2
  refine W.aast F.1 F.2.1 (hR.2.2 _ _ he) (fun q h => by cases h) (fun h => by cases h) k1 k2 rfl hkC ⟨h0, by show _ < (arrV _ _ _).slots.size; rw [arrV_size]; exact hlt⟩ g1 (fun q h => by rw [g3] at h; cases h) (by rw [g2]; exact hkC) (by rw [g2]; exact va_assign hcls) rfl rfl (ht pc _ (mi_at_mem hi)) fun H1 e1 z oq => ?_
  refine kk p l e R s m args below meth c H1 _ cells slots Z D dA b0 xa ls F (hS.put z oq (mi_ad_in hE)) hmc hms (hR.put hE ha _ ?_ z oq) hl hZ
  show H1[_]? = some (vp_cell (dA t) (n, _))
  rw [e1]
  show some ((arrV (dA t) n (fun j => va_rf ((f j).map (mi_ad P.2.2.2.2.2.1 b0 xa)))).setSlot _ _) = some (arrV (dA t) n (fun j => va_rf ((va_up f i.toNatClampNeg (some v) j).map (mi_ad P.2.2.2.2.2.1 b0 xa))))
  rw [arrV_store]
  congr 2
  funext q
  by_cases hq : q = i.toNatClampNeg
  · subst hq
    simp [updV, va_up, va_rf]
  · simp [updV, va_up, hq]
theorem mi_alen (ht : mi_tb (P.2.2.2.1 k).2.1 tb) {a t : Nat} {x : vp_A} {ty : FieldType} (hi : mi_at tb pc = some .arraylength) (htt : P.2.2.2.2.1[t]? = some ty) (hE : P.2.2.2.2.2.1 ≤ a) (ha : a < h.1) (hc : h.2 a = .inl (t, x)) (kk : mi_WX QX P X k d mc ms (pc + 1) lv (.int (Int32.ofNat x.1) :: st) h Q) : mi_WX QX P X k d mc ms pc lv (.ref a :: st) h Q := by
  intro p l e R s m args below meth c H locs cells slots Z D dA b0 xa ls F hS hmc hms hR hl hZ
  have he := mi_w_at (dA := dA) (E := P.2.2.2.2.2.1) (b0 := b0) (xa := xa) (h := h) hE ha
  rw [hc] at he
  exact va_alen F.1 F.2.1 F.2.2.2.2.2.2.2.2.2.2.2.1 hR.2.2 _ t he (mi_tys_at htt) rfl (ht pc _ (mi_at_mem hi)) (kk p l e R s m args below meth c H locs cells slots Z D dA b0 xa ls F hS hmc hms hR hl hZ)
theorem mi_xld (ht : mi_tb (P.2.2.2.1 k).2.1 tb) {a : Nat} {i : Int32} (hi : mi_at tb pc = some .iaload) (hE : a + 1 < P.2.2.2.2.2.1) (hin : vp_in i (X a).1) (kk : mi_WX QX P X k d mc ms (pc + 1) lv (.int ((X a).2 i.toNatClampNeg) :: st) h Q) : mi_WX QX P X k d mc ms pc lv (.int i :: .ref a :: st) h Q := by
  intro p l e R s m args below meth c H locs cells slots Z D dA b0 xa ls F hS hmc hms hR hl hZ
  have hx := F.2.2.2.2.2.2.2.2.2.2.2.2.1 a hE
  rw [show xa a = (mi_ad P.2.2.2.2.2.1 b0 xa) a from (if_pos (Nat.lt_of_succ_lt hE)).symm] at hx
  exact va_ti F.1 F.2.1 hx hS hin rfl (ht pc _ (mi_at_mem hi)) (kk p l e R s m args below meth c H locs cells slots Z D dA b0 xa ls F hS hmc hms hR hl hZ)
theorem mi_xlen (ht : mi_tb (P.2.2.2.1 k).2.1 tb) {a : Nat} (hi : mi_at tb pc = some .arraylength) (hE : a + 1 < P.2.2.2.2.2.1) (kk : mi_WX QX P X k d mc ms (pc + 1) lv (.int (Int32.ofNat (X a).1) :: st) h Q) : mi_WX QX P X k d mc ms pc lv (.ref a :: st) h Q := by
  intro p l e R s m args below meth c H locs cells slots Z D dA b0 xa ls F hS hmc hms hR hl hZ
  have hx := F.2.2.2.2.2.2.2.2.2.2.2.2.1 a hE
  rw [show xa a = (mi_ad P.2.2.2.2.2.1 b0 xa) a from (if_pos (Nat.lt_of_succ_lt hE)).symm] at hx
  exact va_tlen F.1 F.2.1 hx hS rfl (ht pc _ (mi_at_mem hi)) (kk p l e R s m args below meth c H locs cells slots Z D dA b0 xa ls F hS hmc hms hR hl hZ)
theorem mi_gets (ht : mi_tb (P.2.2.2.1 k).2.1 tb) {index a : Nat} {C n ds : String} (hi : mi_at tb pc = some (.getstatic index)) (hs : (C, n, ds, a) ∈ P.2.2.2.2.2.2.1) (hl' : Cond.fieldLink (P.2.2.2.1 k).1.cls index C n ds ∈ P.2.1) (kk : mi_WX QX P X k d mc ms (pc + 3) lv (.ref a :: st) h Q) : mi_WX QX P X k d mc ms pc lv st h Q := by
  intro p l e R s m args below meth c H locs cells slots Z D dA b0 xa ls F hS hmc hms hR hl hZ
  obtain ⟨hE, hz⟩ := F.2.2.2.2.2.2.2.2.2.2.2.2.2.1.1 _ hs
  have hk := kk p l e R s m args below meth c H locs cells slots Z D dA b0 xa ls F hS hmc hms hR hl hZ
  have e1 : mi_V (mi_ad P.2.2.2.2.2.1 b0 xa) (.ref a) = .ref (xa a) := congrArg Value.ref (if_pos hE)
  rw [List.map_cons, e1] at hk
  exact va_gets F.1 F.2.1 hz hS F.2.2.2.1 (F.2.2.2.2.1 _ hl') (fun _ q => q) (ht pc _ (mi_at_mem hi)) hk
end MIR
end
section
-- new things, and calls
theorem mi_R.push {P : mi_P} {D : va_G} {dA : Nat → ClassId} {b0 : Nat} {xa : Nat → Nat} {H H1 : Heap} {h : mi_H} (hR : mi_R P D dA b0 xa H h) (c : mi_C) (e : va_at D P.1 (H.size, mi_e dA (mi_ad P.2.2.2.2.2.1 b0 xa) c) H1) (z : H1.size = H.size + 1) (o : ∀ q : Nat, q < H.size → H1[q]? = H[q]?) : mi_R P D dA b0 xa H1 (h.1 + 1, va_up h.2 h.1 c) := by
  obtain ⟨h1, h2, h3⟩ := hR
  refine ⟨by show _ ≤ h.1 + 1; omega, by rw [z, h2]; show _ = b0 + (h.1 + 1 - _); omega, ?_⟩
  rw [← mi_w_push h1 c, ← h2]
  refine (h3.kept (fun k x hx => o x.1 ((h3 k x hx).lt))).app (fun k x hx => ?_)
  have hz : k < 1 := (List.getElem?_eq_some_iff.mp hx).1
  rw [show k = 0 by omega] at hx
  cases hx
  exact e
theorem mi_S_push {b0 : Nat} {s : State} {H H1 : Heap} {locs : List Loc} (hS : va_S (fun q => b0 ≤ q) s.heap H locs) (z : H1.size = H.size + 1) (o : ∀ q : Nat, q < H.size → H1[q]? = H[q]?) : va_S (fun q => b0 ≤ q) s.heap H1 locs :=
  ⟨Nat.le_trans hS.1 (by omega), fun x h1 h2 => (o x (Nat.lt_of_lt_of_le h1 hS.1)).trans (hS.2.1 x h1 h2), hS.2.2⟩
section MIN
variable {QX : Nat → Nat → mi_H → Prop} {P : mi_P} {X : mi_X} {k d mc ms pc : Nat} {lv : mi_L} {st : List Value} {h : mi_H} {Q : Option Value → mi_H → Prop} {tb : List (Nat × Instr)}
set_option maxHeartbeats 4000000 in
theorem mi_new (ht : mi_tb (P.2.2.2.1 k).2.1 tb) {index ci N : Nat} {C : String} {T : u_T} {ty0 : Nat → FieldType} {fs : List Value} (hi : mi_at tb pc = some (.new index)) (hcf : mi_cf P ci C T N ty0) (h1 : Cond.classLink (P.2.2.2.1 k).1.cls index C ∈ P.2.1) (h2 : Cond.instantiable C N ∈ P.2.1) (h3 : Cond.initialized C ∈ P.2.1) (hfs : ∀ j, j < N → defaultValue (ty0 j) = vp_V fs j) (hrf : ∀ ad, fs.map (mi_V ad) = fs)
    (w : mi_WX QX P X k d mc ms (pc + 3) lv (.ref h.1 :: st) (h.1 + 1, va_up h.2 h.1 (.inr (ci, fs))) Q) : mi_WX QX P X k d (mc + 1) (ms + N) pc lv st h Q := by
  intro p l e R s m args below meth c H locs cells slots Z D dA b0 xa ls F hS hmc hms hR hl hZ
  have F0' := F
  obtain ⟨hx, hb, hml, hown, hts, hnm, -, -, -, -, hz0, hK, -, -, hN⟩ := F
  obtain ⟨c1, c2, c3, c4⟩ := hcf
  have hKn := hK.1 ci _ c1
  have ea : mi_ad P.2.2.2.2.2.1 b0 xa h.1 = H.size := by
    unfold mi_ad
    rw [if_neg (by have := hR.1; omega), hR.2.1]
  refine W.newcK hx hb hown (hts _ h1) (hts _ h2) (hts _ h3) rfl (ht pc _ (mi_at_mem hi)) (by omega) (by omega) hKn.2.1 rfl fun H1 kC hkC e1 z1 o1 => ?_
  have hw := w p l e R s m args below meth c H1 locs (cells + 1) (slots + N) Z D dA b0 xa ls F0' (mi_S_push hS z1 o1) (by omega) (by omega) (hR.push (.inr (ci, fs)) (by
    show va_at D P.1 (H.size, .inr (ci, fs.map (mi_V (mi_ad P.2.2.2.2.2.1 b0 xa)))) H1
    rw [hrf]
    exact ⟨_, c1, (u_born ty0 hts c2 hKn hkC e1 c3).to hfs⟩) z1 o1) hl hZ
  rw [List.map_cons, show mi_V (mi_ad P.2.2.2.2.2.1 b0 xa) (.ref h.1) = .ref H.size from congrArg Value.ref ea] at hw
  exact hw
set_option maxHeartbeats 4000000 in
theorem mi_newa (ht : mi_tb (P.2.2.2.1 k).2.1 tb) {atype : ArrayType} {t N : Nat} {n : Int32} {z : (Nat → Int32) ⊕ (Nat → Int64) ⊕ (Nat → UInt32) ⊕ (Nat → UInt64) ⊕ (Nat → Option Nat)} (hi : mi_at tb pc = some (.newarray atype)) (htt : P.2.2.2.2.1[t]? = some (newarray.typeOf atype)) (harr : Cond.arrayClass (newarray.typeOf atype) ∈ P.2.1) (hn : ¬ n < 0) (hN : n.toNatClampNeg = N) (hby : N * componentBytes (newarray.typeOf atype) ≤ 536870912)
    (hz : ∀ cA, vp_cell cA (N, z) = arrV cA N (fun _ => defaultValue (newarray.typeOf atype))) (hzz : ∀ ad, mi_z ad z = z) (w : mi_WX QX P X k d mc ms (pc + 2) lv (.ref h.1 :: st) (h.1 + 1, va_up h.2 h.1 (.inl (t, N, z))) Q) : mi_WX QX P X k d (mc + 1) (ms + N) pc lv (.int n :: st) h Q := by
  intro p l e R s m args below meth c H locs cells slots Z D dA b0 xa ls F hS hmc hms hR hl hZ
  have F0' := F
  obtain ⟨hx, hb, hml, hown, hts, hnm, -, -, -, -, hz0, hK, -, -, hNw⟩ := F
  have ea : mi_ad P.2.2.2.2.2.1 b0 xa h.1 = H.size := by
    unfold mi_ad
    rw [if_neg (by have := hR.1; omega), hR.2.1]
  refine va_newaK hx hb (hts _ harr) rfl (ht pc _ (mi_at_mem hi)) rfl hn hN hby (by omega) (by omega) rfl fun H1 cA e1 z1 o1 hAr hNm => ?_
  have hcA : cA = dA t := by
    have h2 := (hK.2 t _ (mi_tys_at htt)).2
    have h3 : s.vm.findClass ("[" ++ (newarray.typeOf atype).toString) = some (dA t) := by cases atype <;> exact h2
    exact Option.some.inj (hNm.symm.trans h3)
  subst hcA
  have hw := w p l e R s m args below meth c H1 locs (cells + 1) (slots + N) Z D dA b0 xa ls F0' (mi_S_push hS z1 o1) (by omega) (by omega) (hR.push (.inl (t, N, z)) (by
    show H1[H.size]? = some (vp_cell (dA t) (N, mi_z (mi_ad P.2.2.2.2.2.1 b0 xa) z))
    rw [hzz, hz]
    exact e1) z1 o1) hl hZ
  rw [List.map_cons, show mi_V (mi_ad P.2.2.2.2.2.1 b0 xa) (.ref h.1) = .ref H.size from congrArg Value.ref ea] at hw
  exact hw
set_option maxHeartbeats 4000000 in
theorem mi_newq (ht : mi_tb (P.2.2.2.1 k).2.1 tb) {index t N : Nat} {n : Int32} {C : String} (hi : mi_at tb pc = some (.anewarray index)) (htt : P.2.2.2.2.1[t]? = some (.object C)) (hcl : Cond.classLink (P.2.2.2.1 k).1.cls index C ∈ P.2.1) (hov : Cond.arrayOver (.object C) ∈ P.2.2.1) (hn : ¬ n < 0) (hN : n.toNatClampNeg = N) (hby : N * 4 ≤ 536870912)
    (w : mi_WX QX P X k d mc ms (pc + 3) lv (.ref h.1 :: st) (h.1 + 1, va_up h.2 h.1 (.inl (t, N, .inr (.inr (.inr (.inr (fun _ => none))))))) Q) : mi_WX QX P X k d (mc + 1) (ms + N) pc lv (.int n :: st) h Q := by
  intro p l e R s m args below meth c H locs cells slots Z D dA b0 xa ls F hS hmc hms hR hl hZ
  have F0' := F
  obtain ⟨hx, hb, hml, hown, hts, hnm, -, -, -, -, hz0, hK, -, -, hNw⟩ := F
  have ea : mi_ad P.2.2.2.2.2.1 b0 xa h.1 = H.size := by
    unfold mi_ad
    rw [if_neg (by have := hR.1; omega), hR.2.1]
  subst hN
  refine W.anew hx hb hown (hts _ hcl) (va_AO.use (hNw _ hov)) rfl (ht pc _ (mi_at_mem hi)) rfl hn hby (by omega) (by omega) fun cA kA comp f1 f2 f3 f4 => ?_
  have hcA : cA = dA t := by
    obtain ⟨_, _, -, -, -, h4⟩ := (hK.2 t _ (mi_tys_at htt)).2
    exact Option.some.inj (f1.symm.trans h4)
  subst hcA
  generalize hH1 : H.push ({ cls := dA t, slots := Array.replicate n.toNatClampNeg .null, vm := .none } : Cell) = H1
  have z1 : H1.size = H.size + 1 := by rw [← hH1, Array.size_push]
  have e1 : H1[H.size]? = some (arrV (dA t) n.toNatClampNeg (fun _ => .null)) := by rw [← hH1, Array.getElem?_push_size, ← arrV_new]
  have o1 : ∀ q : Nat, q < H.size → H1[q]? = H[q]? := fun q hq => by rw [← hH1, Array.getElem?_push, if_neg (Nat.ne_of_lt hq)]
  have hw := w p l e R s m args below meth c H1 locs (cells + 1) (slots + n.toNatClampNeg) Z D dA b0 xa ls F0' (mi_S_push hS z1 o1) (by omega) (by omega) (hR.push (.inl (t, n.toNatClampNeg, .inr (.inr (.inr (.inr (fun _ => none)))))) e1 z1 o1) hl hZ
  rw [List.map_cons, show mi_V (mi_ad P.2.2.2.2.2.1 b0 xa) (.ref h.1) = .ref H.size from congrArg Value.ref ea] at hw
  exact hw
theorem mi_objInit (ht : mi_tb (P.2.2.2.1 k).2.1 tb) {index a : Nat} (hi : mi_at tb pc = some (.invokespecial index)) (h1 : Cond.methodLink (P.2.2.2.1 k).1.cls index objectInit ∈ P.2.1) (h2 : Cond.instanceMethod objectInit ∈ P.2.1) (h3 : Cond.code objectInit ⟨#[0xb1]⟩ 1 none ∈ P.2.1) (hd : 1 ≤ d) (hst : (st.map fun v => v.category).sum ≤ 8)
    (w : mi_WX QX P X k d mc ms (pc + 3) lv st h Q) : mi_WX QX P X k d mc ms pc lv (.ref a :: st) h Q := by
  intro p l e R s m args below meth c H locs cells slots Z D dA b0 xa ls F hS hmc hms hR hl hZ
  have hw := w p l e R s m args below meth c H locs cells slots Z D dA b0 xa ls F hS hmc hms hR hl hZ
  obtain ⟨hx, hb, hml, hown, hts, hnm, -, -, hf1, hf2, hz0, hK, -, -, hNw⟩ := F
  refine W.objInit hx hb hown (hts _ h1) (hts _ h2) (hts _ h3) (g := F0 m pc ls (.ref (mi_ad P.2.2.2.2.2.1 b0 xa a) :: st.map (mi_V (mi_ad P.2.2.2.2.2.1 b0 xa)))) rfl (hl.1.trans hml.symm) rfl (ht pc _ (mi_at_mem hi)) (by omega) ?_ hw
  have := lv_room (m := m) (pc := pc) (ls := ls) (rest := .ref (mi_ad P.2.2.2.2.2.1 b0 xa a) :: st.map (mi_V (mi_ad P.2.2.2.2.2.1 b0 xa))) (st := st.map (mi_V (mi_ad P.2.2.2.2.2.1 b0 xa))) (by rw [List.map_map]; rw [show ((fun v : Value => v.category) ∘ mi_V (mi_ad P.2.2.2.2.2.1 b0 xa)) = fun v => v.category from funext fun v => mi_V_cat _ v]; exact hst)
  omega
end MIN
-- a call, whatever it answers
theorem mi_U.go {P : mi_P} {X : mi_X} {D : va_G} {dA : Nat → ClassId} {b0 : Nat} {xa : Nat → Nat} {s U : State} {H : Heap} {locs : List Loc} (h : mi_U P X D dA b0 xa s) (hS : va_S (fun q => b0 ≤ q) s.heap H locs) (hw : mi_nw P) (hU : U.heap = H) (hW : s.WarmedH U.vm) : mi_U P X D dA b0 xa U := by
  obtain ⟨h1, h2, h3, h4, h5⟩ := h
  have hWs := hW
  have ho : ∀ a : Nat, a < s.heap.size → ¬ b0 ≤ a → U.heap[a]? = s.heap[a]? := fun a h1 h2 => by rw [hU]; exact hS.2.1 a h1 h2
  refine ⟨by rw [hU]; exact Nat.le_trans h1 hS.1, va_K.moved hW.alike h2, fun a ha => ((h3 a ha).kept ho).moved hW.alike, ⟨fun q hq => ⟨(h4.1 q hq).1, ((h4.1 q hq).2.kept ho).moved hW.alike⟩, hw.2.2 _ _ _ _ ho (hw.2.1 _ _ _ _ hW h4.2)⟩, fun w hw' => ?_⟩
  rcases hw.1 w hw' with ⟨a, i, b, n, d, h, rfl⟩ | ⟨a, i, x, h, rfl⟩ | ⟨C, rfl⟩ | ⟨t, rfl⟩
  · exact va_Nw.warmF hW (h5 _ hw')
  · exact va_Nw.warmM hW (h5 _ hw')
  · exact va_AO.moved hW.alike (h5 _ hw')
  · exact mi_AOA hW.alike (h5 _ hw')
theorem mi_U.calling {P : mi_P} {X : mi_X} {D : va_G} {dA : Nat → ClassId} {b0 : Nat} {xa : Nat → Nat} {U : State} (h : mi_U P X D dA b0 xa U) (hw : mi_nw P) (g : JFrame) (mk : MethodId) (a : Array Value) : mi_U P X D dA b0 xa (U.calling g mk a) := by
  obtain ⟨h1, h2, h3, h4, h5⟩ := h
  refine ⟨h1, va_K.moved (u := U) (U := U.calling g mk a) (Vm.Alike.refl U.vm) h2, fun x hx => (h3 x hx).moved (u := U) (U := U.calling g mk a) (Vm.Alike.refl U.vm), ⟨fun q hq => ⟨(h4.1 q hq).1, (h4.1 q hq).2.moved (u := U) (U := U.calling g mk a) (Vm.Alike.refl U.vm)⟩, hw.2.1 _ _ _ _ (State.WarmedH.refl U) h4.2⟩, fun w hw' => ?_⟩
  rcases hw.1 w hw' with ⟨a, i, b, n, d, h, rfl⟩ | ⟨a, i, x, h, rfl⟩ | ⟨C, rfl⟩ | ⟨t, rfl⟩
  · exact va_Nw.same rfl rfl (h5 _ hw')
  · exact va_Nw.same rfl rfl (h5 _ hw')
  · exact va_AO.moved (u := U) (Vm.Alike.refl U.vm) (h5 _ hw')
  · exact mi_AOA (u := U) (Vm.Alike.refl U.vm) (h5 _ hw')
theorem mi_blind {P : mi_P} {X : mi_X} {D : va_G} {dA : Nat → ClassId} {b0 : Nat} {xa : Nat → Nat} {av : List Value} {h : mi_H} (hw : mi_nw P) : FrameBlind (va_Pc av (fun U => mi_U P X D dA b0 xa U ∧ mi_R P D dA b0 xa U.heap h)) :=
  fun a U g mk q => ⟨q.1, q.2.1.calling hw g mk a, q.2.2⟩
theorem mi_back {P : mi_P} {D : va_G} {dA : Nat → ClassId} {b0 : Nat} {xa : Nat → Nat} {p : Program} {l : Launch} {e : Env} {R : Room} {s : State} {m : MethodId} {args : Array Value} {below : List Frame} {meth : Method} {c : Code} {H : Heap} {locs : List Loc} {cells slots mc ms pc : Nat} {Z : State → Prop} {ls : Array Slot} {st0 rest : List Value} {Q : Option Value → mi_H → Prop} (hb0 : b0 ≤ s.heap.size)
    (hr : va_Run p l e R s m args below meth c H locs cells slots mc ms (F0 m pc ls st0) rest (fun st o t => (∃ (r : Option Value) (h1 : mi_H), o = .returned (r.map (mi_V (mi_ad P.2.2.2.2.2.1 b0 xa))) ∧ Q r h1 ∧ mi_R P D dA b0 xa t.heap h1) ∧ va_F (fun q => b0 ≤ q) st t) (fun q => b0 ≤ q)) (hS : va_S (fun q => b0 ≤ q) s.heap H locs)
    (kk : ∀ (r : Option Value) (h1 : mi_H) (H1 : Heap) (locs1 : List Loc), Q r h1 → mi_R P D dA b0 xa H1 h1 → va_S (fun q => b0 ≤ q) s.heap H1 locs1 → W p l e R s m args below meth c H1 locs1 (cells + mc) (slots + ms) Z (F0 m (pc + 3) ls ((r.map (mi_V (mi_ad P.2.2.2.2.2.1 b0 xa))).toList ++ rest))) : W p l e R s m args below meth c H locs cells slots Z (F0 m pc ls st0) := by
  intro T hT Xs
  obtain ⟨v, st₀, t, T', L, h0, X', hL, e1, e2, ⟨⟨r, h1, hv, hq, hR1⟩, hz, hk⟩, st⟩ := hr T hT Xs
  cases hv
  rw [h0] at hz hk
  obtain ⟨t2, a1, b1⟩ := kk r h1 T'.heap (locs ++ L) hq (by rw [e1]; exact hR1)
    ⟨Nat.le_trans hS.1 (by rw [e1]; exact hz), fun q h1 h2 => by rw [e1, hk q (Nat.lt_of_lt_of_le h1 hS.1) h2]; exact hS.2.1 q h1 h2, fun q hq => by
      rcases List.mem_append.mp hq with h | h
      · exact hS.2.2 q h
      · exact hL q h⟩ T' rfl X'
  exact ⟨t2, st t2 a1, b1⟩
/-- the words of a call of the method k' from own's pool at idx, with n arguments -/
def mi_cw (P : mi_P) (own : String) (idx k' n : Nat) : Prop := (Cond.code (P.2.2.2.1 k').1 (P.2.2.2.1 k').2.1 (P.2.2.2.1 k').2.2.1 (P.2.2.2.1 k').2.2.2 ∈ P.2.1 ∧ Cond.initialized (P.2.2.2.1 k').1.cls ∈ P.2.1 ∧ (P.2.2.2.1 k').2.2.1 ≤ 13) ∧
  (P.2.2.2.1 k').1.cls ≠ "java/lang/invoke/MethodHandle" ∧ (P.2.2.2.1 k').1.cls ≠ "java/lang/invoke/VarHandle" ∧ (parseMethodDescriptor (P.2.2.2.1 k').1.desc).map (fun d => d.parameters.length) = some n
def mi_cV (P : mi_P) (own : String) (idx k' n : Nat) : Prop := mi_cw P own idx k' n ∧ Cond.methodLink own idx (P.2.2.2.1 k').1 ∈ P.2.1 ∧ Cond.instanceMethod (P.2.2.2.1 k').1 ∈ P.2.1 ∧ Cond.selects (P.2.2.2.1 k').1.cls (P.2.2.2.1 k').1 (P.2.2.2.1 k').1 ∈ P.2.1
def mi_cS (P : mi_P) (own : String) (idx k' n : Nat) : Prop := mi_cw P own idx k' n ∧ Cond.methodLink own idx (P.2.2.2.1 k').1 ∈ P.2.1 ∧ Cond.static (P.2.2.2.1 k').1 ∈ P.2.1
def mi_cI (P : mi_P) (own : String) (idx k' n : Nat) : Prop := mi_cw P own idx k' n ∧ (P.2.2.2.1 k').1.name = "<init>" ∧ (P.2.2.2.1 k').2.2.2 = none ∧ Cond.instanceMethod (P.2.2.2.1 k').1 ∈ P.2.1 ∧ (Cond.methodLink own idx (P.2.2.2.1 k').1 ∈ P.2.1 ∨ ∃ host, Cond.methodLinkNest own idx (P.2.2.2.1 k').1 host ∈ P.2.2.1)
theorem mi_good {P : mi_P} (hg : ∀ w ∈ P.2.1, (w.onTables && w.keeps) = true ∨ ∃ ty, w = .arrayClass ty) {ws : List Cond} (h : ∀ w ∈ ws, w ∈ P.2.1) : GoodIn P.2.1 ws := fun w hw => ⟨h w hw, hg w (h w hw)⟩
theorem mi_sum (ad : Nat → Nat) (st : List Value) : ((st.map (mi_V ad)).map fun v => v.category).sum = (st.map fun v => v.category).sum := by
  rw [List.map_map, show ((fun v : Value => v.category) ∘ mi_V ad) = fun v => v.category from funext fun v => mi_V_cat _ v]
section MIC
variable {QX : Nat → Nat → mi_H → Prop} {P : mi_P} {X : mi_X} {k d mc ms pc : Nat} {lv : mi_L} {st : List Value} {h : mi_H} {Q : Option Value → mi_H → Prop} {tb : List (Nat × Instr)}
set_option maxHeartbeats 4000000 in
theorem mi_callV (ht : mi_tb (P.2.2.2.1 k).2.1 tb) {index k' d' mc' ms' b ci n : Nat} {As : List Value} {fs : List Value} {Q' : Option Value → mi_H → Prop} (hi : mi_at tb pc = some (.invokevirtual index)) (cw : mi_cV P (P.2.2.2.1 k).1.cls index k' n) (hn : As.length = n) (hd : d' + 1 ≤ d) (hE : P.2.2.2.2.2.1 ≤ b) (hb' : b < h.1) (hc : h.2 b = .inr (ci, fs)) (hci : (P.1[ci]?).map (·.1) = some (P.2.2.2.1 k').1.cls) (hst : (st.map fun v => v.category).sum ≤ 8)
    (hS' : mi_S P X k' d' (.ref b :: As) h mc' ms' Q') (w : ∀ (r : Option Value) (h1 : mi_H), Q' r h1 → mi_WX QX P X k d mc ms (pc + 3) lv (r.toList ++ st) h1 Q) : mi_WX QX P X k d (mc + mc') (ms + ms') pc lv (As.reverse ++ .ref b :: st) h Q := by
  intro p l e R s m args below meth c H locs cells slots Z D dA b0 xa ls F hS hmc hms hR hl hZ
  have F0' := F
  obtain ⟨hx, hb, hml, hown, hts, hnm, hg, hnw, hf1, hf2, hU⟩ := F
  obtain ⟨⟨⟨w1, w2, w3⟩, w4⟩, w5, w6, w7⟩ := cw
  have he := mi_w_at (dA := dA) (E := P.2.2.2.2.2.1) (b0 := b0) (xa := xa) (h := h) hE hb'
  rw [hc] at he
  obtain ⟨q, hq1, hq2⟩ := Option.map_eq_some_iff.mp hci
  have hrec := va_recv hU.2.1 hR.2.2 hq1 he
  rw [hq2] at hrec
  have hws : ∀ w ∈ wsV (P.2.2.2.1 k).1.cls index (P.2.2.2.1 k').1.cls (P.2.2.2.1 k').1 (.code (P.2.2.2.1 k').1 (P.2.2.2.1 k').2.1 (P.2.2.2.1 k').2.2.1 (P.2.2.2.1 k').2.2.2 :: P.2.1), w ∈ P.2.1 := by
    intro w hw
    rcases List.mem_append.mp hw with h1 | h1
    · simp only [List.mem_cons, List.not_mem_nil, or_false] at h1
      rcases h1 with rfl | rfl | rfl | rfl <;> assumption
    · rcases List.mem_cons.mp h1 with rfl | h1
      · exact w1
      · exact h1
  have e0 : (As.reverse ++ .ref b :: st).map (mi_V (mi_ad P.2.2.2.2.2.1 b0 xa)) = (As.map (mi_V (mi_ad P.2.2.2.2.2.1 b0 xa))).reverse ++ .ref (mi_ad P.2.2.2.2.2.1 b0 xa b) :: st.map (mi_V (mi_ad P.2.2.2.2.2.1 b0 xa)) := by
    rw [List.map_append, List.map_reverse]; rfl
  rw [e0]
  refine mi_back hU.1 (va_runV ⟨hx, hb, hml, hown, hts⟩ (hS' l F0'.2.2.2.2.2.1.2.2 D dA b0 xa) (cwV n hts (mi_good hg hws) rfl rfl rfl ⟨rfl, w4⟩ ⟨by show d' + 1 ≤ R.frames; omega, by show 8 + (_ + 11) + 32 * d' ≤ R.locals; omega⟩) ⟨mi_blind hnw, hrec, fun U hU' hW => ⟨rfl, hU.go hS hnw hU' hW, by rw [hU']; exact hR⟩⟩ rfl (by rw [List.length_map]; exact hn) hl.1 rfl (lv_room (by rw [mi_sum]; exact hst)) (ht pc _ (mi_at_mem hi)) ⟨by omega, by omega⟩) hS (fun r h1 H1 locs1 hQ hR1 hS1 => ?_)
  have hw := w r h1 hQ p l e R s m args below meth c H1 locs1 (cells + mc') (slots + ms') Z D dA b0 xa ls F0' hS1 (by omega) (by omega) hR1 hl hZ
  rw [List.map_append] at hw
  cases r <;> exact hw
set_option maxHeartbeats 4000000 in
theorem mi_callS (ht : mi_tb (P.2.2.2.1 k).2.1 tb) {index k' d' mc' ms' n : Nat} {As : List Value} {Q' : Option Value → mi_H → Prop} (hi : mi_at tb pc = some (.invokestatic index)) (cw : mi_cS P (P.2.2.2.1 k).1.cls index k' n) (hn : As.length = n) (hd : d' + 1 ≤ d) (hst : (st.map fun v => v.category).sum ≤ 8)
    (hS' : mi_S P X k' d' As h mc' ms' Q') (w : ∀ (r : Option Value) (h1 : mi_H), Q' r h1 → mi_WX QX P X k d mc ms (pc + 3) lv (r.toList ++ st) h1 Q) : mi_WX QX P X k d (mc + mc') (ms + ms') pc lv (As.reverse ++ st) h Q := by
  intro p l e R s m args below meth c H locs cells slots Z D dA b0 xa ls F hS hmc hms hR hl hZ
  have F0' := F
  obtain ⟨hx, hb, hml, hown, hts, hnm, hg, hnw, hf1, hf2, hU⟩ := F
  obtain ⟨⟨⟨w1, w2, w3⟩, w4⟩, w5, w6⟩ := cw
  have hws : ∀ w ∈ va_wsS (P.2.2.2.1 k).1.cls index (P.2.2.2.1 k').1 (.code (P.2.2.2.1 k').1 (P.2.2.2.1 k').2.1 (P.2.2.2.1 k').2.2.1 (P.2.2.2.1 k').2.2.2 :: P.2.1), w ∈ P.2.1 := by
    intro w hw
    rcases List.mem_append.mp hw with h1 | h1
    · simp only [List.mem_cons, List.not_mem_nil, or_false] at h1
      rcases h1 with rfl | rfl | rfl <;> assumption
    · rcases List.mem_cons.mp h1 with rfl | h1
      · exact w1
      · exact h1
  have e0 : (As.reverse ++ st).map (mi_V (mi_ad P.2.2.2.2.2.1 b0 xa)) = (As.map (mi_V (mi_ad P.2.2.2.2.2.1 b0 xa))).reverse ++ st.map (mi_V (mi_ad P.2.2.2.2.2.1 b0 xa)) := by
    rw [List.map_append, List.map_reverse]
  rw [e0]
  refine mi_back hU.1 (va_runS ⟨hx, hb, hml, hown, hts⟩ (hS' l F0'.2.2.2.2.2.1.2.2 D dA b0 xa) (va_cwS n hts (mi_good hg hws) rfl rfl rfl w4 ⟨by show d' + 1 ≤ R.frames; omega, by show 8 + (_ + 11) + 32 * d' ≤ R.locals; omega⟩) ⟨mi_blind hnw, fun U hU' hW => ⟨rfl, hU.go hS hnw hU' hW, by rw [hU']; exact hR⟩⟩ rfl (by rw [List.length_map]; exact hn) hl.1 rfl (lv_room (by rw [mi_sum]; exact hst)) (ht pc _ (mi_at_mem hi)) ⟨by omega, by omega⟩) hS (fun r h1 H1 locs1 hQ hR1 hS1 => ?_)
  have hw := w r h1 hQ p l e R s m args below meth c H1 locs1 (cells + mc') (slots + ms') Z D dA b0 xa ls F0' hS1 (by omega) (by omega) hR1 hl hZ
  rw [List.map_append] at hw
  cases r <;> exact hw
set_option maxHeartbeats 4000000 in
theorem mi_callI (ht : mi_tb (P.2.2.2.1 k).2.1 tb) {index k' d' mc' ms' b n : Nat} {As : List Value} {Q' : Option Value → mi_H → Prop} (hi : mi_at tb pc = some (.invokespecial index)) (cw : mi_cI P (P.2.2.2.1 k).1.cls index k' n) (hn : As.length = n) (hd : d' + 1 ≤ d) (hst : (st.map fun v => v.category).sum ≤ 8)
    (hS' : mi_S P X k' d' (.ref b :: As) h mc' ms' Q') (w : ∀ (r : Option Value) (h1 : mi_H), Q' r h1 → mi_WX QX P X k d mc ms (pc + 3) lv (r.toList ++ st) h1 Q) : mi_WX QX P X k d (mc + mc') (ms + ms') pc lv (As.reverse ++ .ref b :: st) h Q := by
  intro p l e R s m args below meth c H locs cells slots Z D dA b0 xa ls F hS hmc hms hR hl hZ
  have F0' := F
  obtain ⟨hx, hb, hml, hown, hts, hnm, hg, hnw, hf1, hf2, hU⟩ := F
  obtain ⟨⟨⟨w1, w2, w3⟩, w4⟩, w5, w8, w6, w7⟩ := cw
  have hM := hS' l F0'.2.2.2.2.2.1.2.2 D dA b0 xa
  rw [w8] at w1 hM
  have hws : ∀ w ∈ (.code (P.2.2.2.1 k').1 (P.2.2.2.1 k').2.1 (P.2.2.2.1 k').2.2.1 none :: P.2.1), w ∈ P.2.1 := by
    intro w hw
    rcases List.mem_cons.mp hw with rfl | h1
    · exact w1
    · exact h1
  have e0 : (As.reverse ++ .ref b :: st).map (mi_V (mi_ad P.2.2.2.2.2.1 b0 xa)) = (As.map (mi_V (mi_ad P.2.2.2.2.2.1 b0 xa))).reverse ++ .ref (mi_ad P.2.2.2.2.2.1 b0 xa b) :: st.map (mi_V (mi_ad P.2.2.2.2.2.1 b0 xa)) := by
    rw [List.map_append, List.map_reverse]; rfl
  rw [e0]
  have hroom : d' + 1 ≤ R.frames ∧ 8 + ((P.2.2.2.1 k').2.2.1 + 11) + 32 * d' ≤ R.locals := ⟨by omega, by omega⟩
  have hpre : PreS s H (va_Pc ((Value.ref b :: As).map (mi_V (mi_ad P.2.2.2.2.2.1 b0 xa))) (fun U => mi_U P X D dA b0 xa U ∧ mi_R P D dA b0 xa U.heap h)) (.ref (mi_ad P.2.2.2.2.2.1 b0 xa b) :: As.map (mi_V (mi_ad P.2.2.2.2.2.1 b0 xa))) := ⟨mi_blind hnw, fun U hU' hW => ⟨rfl, hU.go hS hnw hU' hW, by rw [hU']; exact hR⟩⟩
  have hlast : ∀ (r : Option Value) (h1 : mi_H) (H1 : Heap) (locs1 : List Loc), Q' r h1 → mi_R P D dA b0 xa H1 h1 → va_S (fun q => b0 ≤ q) s.heap H1 locs1 → W p l e R s m args below meth c H1 locs1 (cells + mc') (slots + ms') Z (F0 m (pc + 3) ls ((r.map (mi_V (mi_ad P.2.2.2.2.2.1 b0 xa))).toList ++ st.map (mi_V (mi_ad P.2.2.2.2.2.1 b0 xa)))) := by
    intro r h1 H1 locs1 hQ hR1 hS1
    have hw := w r h1 hQ p l e R s m args below meth c H1 locs1 (cells + mc') (slots + ms') Z D dA b0 xa ls F0' hS1 (by omega) (by omega) hR1 hl hZ
    rw [List.map_append] at hw
    cases r <;> exact hw
  rcases w7 with w7 | ⟨host, w7⟩
  · exact mi_back hU.1 (va_runI ⟨hx, hb, hml, hown, hts⟩ hM (cwI n hts (mi_good hg hws) rfl rfl rfl (hts _ w2) (hts _ w7) (hts _ w6) w5 w4 hroom) hpre rfl (by rw [List.length_map]; exact hn) hl.1 rfl (lv_room (by rw [mi_sum]; exact hst)) (ht pc _ (mi_at_mem hi)) ⟨by omega, by omega⟩) hS hlast
  · exact mi_back hU.1 (va_runIN ⟨hx, hb, hml, hown, hts⟩ hM ⟨va_cnB n hts (mi_good hg hws) rfl rfl rfl (hU.2.2.2.2 _ w7) (hts _ w2) w4 hroom, w5, hts _ w6⟩ hpre rfl (by rw [List.length_map]; exact hn) hl.1 rfl (lv_room (by rw [mi_sum]; exact hst)) (ht pc _ (mi_at_mem hi)) ⟨by omega, by omega⟩) hS hlast
end MIC
end
section
-- cells changed, as a word
def mi_set (h : mi_H) (a : Nat) (c : mi_C) : mi_H := (h.1, va_up h.2 a c)
theorem mi_set_1 {h : mi_H} {a : Nat} {c : mi_C} : (mi_set h a c).1 = h.1 := rfl
theorem mi_set_self {h : mi_H} {a : Nat} {c : mi_C} : (mi_set h a c).2 a = c := if_pos rfl
theorem mi_set_ne {h : mi_H} {a b : Nat} {c : mi_C} (hn : b ≠ a) : (mi_set h a c).2 b = h.2 b := if_neg hn
theorem mi_set_set {h : mi_H} {a : Nat} {c c' : mi_C} : mi_set (mi_set h a c) a c' = mi_set h a c' := by
  unfold mi_set
  refine Prod.ext rfl (funext fun b => ?_)
  show (if b = a then c' else if b = a then c else h.2 b) = if b = a then c' else h.2 b
  by_cases e : b = a
  · rw [if_pos e, if_pos e]
  · rw [if_neg e, if_neg e, if_neg e]
theorem mi_set_same {h : mi_H} {a : Nat} {c : mi_C} (hc : h.2 a = c) : mi_set h a c = h := by
  unfold mi_set
  refine Prod.ext rfl (funext fun b => ?_)
  show (if b = a then c else h.2 b) = h.2 b
  by_cases e : b = a
  · rw [if_pos e, e, hc]
  · rw [if_neg e]
theorem mi_set_comm {h : mi_H} {a b : Nat} {c c' : mi_C} (hn : a ≠ b) : mi_set (mi_set h a c) b c' = mi_set (mi_set h b c') a c := by
  unfold mi_set
  refine Prod.ext rfl (funext fun x => ?_)
  show (if x = b then c' else if x = a then c else h.2 x) = if x = a then c else if x = b then c' else h.2 x
  by_cases e : x = a
  · subst e
    rw [if_pos rfl, if_neg hn, if_pos rfl]
  · rw [if_neg e, if_neg e]
section MIE
variable {QX : Nat → Nat → mi_H → Prop} {P : mi_P} {X : mi_X} {k d mc ms pc : Nat} {lv : mi_L} {st : List Value} {h : mi_H} {Q : Option Value → mi_H → Prop} {tb : List (Nat × Instr)}
theorem mi_ret_i (ht : mi_tb (P.2.2.2.1 k).2.1 tb) {v : Int32} {ty : FieldType} (hi : mi_at tb pc = some .ireturn) (hr : (P.2.2.2.1 k).2.2.2 = some ty) (hn : narrow ty (.int v) = .int v) (hQ : Q (some (.int v)) h) : mi_WX QX P X k d mc ms pc lv [.int v] h Q := mi_ret (some (.int v)) ⟨ht pc _ (mi_at_mem hi), ty, hr, hn⟩ hQ
theorem mi_ret_l (ht : mi_tb (P.2.2.2.1 k).2.1 tb) {v : Int64} (hi : mi_at tb pc = some .lreturn) (hr : (P.2.2.2.1 k).2.2.2 = some .long) (hQ : Q (some (.long v)) h) : mi_WX QX P X k d mc ms pc lv [.long v] h Q := mi_ret (some (.long v)) ⟨ht pc _ (mi_at_mem hi), hr⟩ hQ
theorem mi_ret_d (ht : mi_tb (P.2.2.2.1 k).2.1 tb) {v : UInt64} (hi : mi_at tb pc = some .dreturn) (hr : (P.2.2.2.1 k).2.2.2 = some .double) (hQ : Q (some (.double v)) h) : mi_WX QX P X k d mc ms pc lv [.double v] h Q := mi_ret (some (.double v)) ⟨ht pc _ (mi_at_mem hi), hr⟩ hQ
theorem mi_ret_f (ht : mi_tb (P.2.2.2.1 k).2.1 tb) {v : UInt32} (hi : mi_at tb pc = some .freturn) (hr : (P.2.2.2.1 k).2.2.2 = some .float) (hQ : Q (some (.float v)) h) : mi_WX QX P X k d mc ms pc lv [.float v] h Q := mi_ret (some (.float v)) ⟨ht pc _ (mi_at_mem hi), hr⟩ hQ
theorem mi_ret_a (ht : mi_tb (P.2.2.2.1 k).2.1 tb) {a : Nat} {rt : FieldType} (hi : mi_at tb pc = some .areturn) (hr : (P.2.2.2.1 k).2.2.2 = some rt) (hrt : (∃ n, rt = .object n) ∨ ∃ t, rt = .array t) (hQ : Q (some (.ref a)) h) : mi_WX QX P X k d mc ms pc lv [.ref a] h Q := mi_ret (some (.ref a)) ⟨ht pc _ (mi_at_mem hi), rt, hr, hrt⟩ hQ
theorem mi_ret_v (ht : mi_tb (P.2.2.2.1 k).2.1 tb) (hi : mi_at tb pc = some .return_) (hr : (P.2.2.2.1 k).2.2.2 = none) (hQ : Q none h) : mi_WX QX P X k d mc ms pc lv [] h Q := mi_ret none ⟨ht pc _ (mi_at_mem hi), hr⟩ hQ
theorem mi_putf' (ht : mi_tb (P.2.2.2.1 k).2.1 tb) {index ci j a : Nat} {ty : FieldType} {fs : List Value} {v : Value} (hi : mi_at tb pc = some (.putfield index)) (fd : mi_fd P (P.2.2.2.1 k).1.cls index ci j false ty) (hE : P.2.2.2.2.2.1 ≤ a) (ha : a < h.1) (hc : h.2 a = .inr (ci, fs)) {fs' : List Value} (hfs : fs.set j v = fs') (hj : j < fs.length) (hn : narrow ty v = v) (hf : fits ty v = true)
    (w : mi_WX QX P X k d mc ms (pc + 3) lv st (mi_set h a (.inr (ci, fs'))) Q) : mi_WX QX P X k d mc ms pc lv (v :: .ref a :: st) h Q := by
  subst hfs
  exact mi_putf ht hi fd hE ha hc hj hn hf w
theorem mi_putF' (ht : mi_tb (P.2.2.2.1 k).2.1 tb) {index ci j a : Nat} {ty : FieldType} {fs : List Value} {v : Value} (hi : mi_at tb pc = some (.putfield index)) (fd : mi_fd P (P.2.2.2.1 k).1.cls index ci j true ty) (hnam : (P.2.2.2.1 k).1.name = "<init>") (hE : P.2.2.2.2.2.1 ≤ a) (ha : a < h.1) (hc : h.2 a = .inr (ci, fs)) {fs' : List Value} (hfs : fs.set j v = fs') (hj : j < fs.length) (hn : narrow ty v = v) (hf : fits ty v = true)
    (w : mi_WX QX P X k d mc ms (pc + 3) lv st (mi_set h a (.inr (ci, fs'))) Q) : mi_WX QX P X k d mc ms pc lv (v :: .ref a :: st) h Q := by
  subst hfs
  exact mi_putF ht hi fd hnam hE ha hc hj hn hf w
/-- Math's three -/
theorem mi_abs (ht : mi_tb (P.2.2.2.1 k).2.1 tb) {index : Nat} {x : Int32} (hi : mi_at tb pc = some (.invokestatic index)) (h1 : Cond.methodLink (P.2.2.2.1 k).1.cls index Lib.Math.abs.name ∈ P.2.1) (h2 : Cond.static Lib.Math.abs.name ∈ P.2.1) (h3 : Cond.initialized "java/lang/Math" ∈ P.2.1) (h4 : Cond.code Lib.Math.abs.name Lib.Math.abs.code 1 (some .int) ∈ P.2.1) (hd : 1 ≤ d) (hst : (st.map fun v => v.category).sum ≤ 8)
    (w : mi_WX QX P X k d mc ms (pc + 3) lv (.int (if 0 ≤ x then x else 0 - x) :: st) h Q) : mi_WX QX P X k d mc ms pc lv (.int x :: st) h Q := by
  intro p l e R s m args below meth c H locs cells slots Z D dA b0 xa ls F hS hmc hms hR hl hZ
  have hw := w p l e R s m args below meth c H locs cells slots Z D dA b0 xa ls F hS hmc hms hR hl hZ
  obtain ⟨hx, hb, hml, hown, hts, hnm, -, -, hf1, hf2, hz0, hK, -, -, hNw⟩ := F
  exact va_mabs hx hb (hml.trans hl.1.symm) hown (hts _ h1) (hts _ h2) (hts _ h3) (hts _ h4) (by omega) (by rw [mi_sum]; omega) (by omega) (by omega) (ht pc _ (mi_at_mem hi)) hw
theorem mi_max (ht : mi_tb (P.2.2.2.1 k).2.1 tb) {index : Nat} {x y : Int32} (hi : mi_at tb pc = some (.invokestatic index)) (h1 : Cond.methodLink (P.2.2.2.1 k).1.cls index Lib.Math.max.name ∈ P.2.1) (h2 : Cond.static Lib.Math.max.name ∈ P.2.1) (h3 : Cond.initialized "java/lang/Math" ∈ P.2.1) (h4 : Cond.code Lib.Math.max.name Lib.Math.max.code 2 (some .int) ∈ P.2.1) (hd : 1 ≤ d) (hst : (st.map fun v => v.category).sum ≤ 8)
    (w : mi_WX QX P X k d mc ms (pc + 3) lv (.int (if x < y then y else x) :: st) h Q) : mi_WX QX P X k d mc ms pc lv (.int y :: .int x :: st) h Q := by
  intro p l e R s m args below meth c H locs cells slots Z D dA b0 xa ls F hS hmc hms hR hl hZ
  have hw := w p l e R s m args below meth c H locs cells slots Z D dA b0 xa ls F hS hmc hms hR hl hZ
  obtain ⟨hx, hb, hml, hown, hts, hnm, -, -, hf1, hf2, hz0, hK, -, -, hNw⟩ := F
  exact va_mmax hx hb (hml.trans hl.1.symm) hown (hts _ h1) (hts _ h2) (hts _ h3) (hts _ h4) (by omega) (by rw [mi_sum]; omega) (by omega) (by omega) (ht pc _ (mi_at_mem hi)) hw
theorem mi_min (ht : mi_tb (P.2.2.2.1 k).2.1 tb) {index : Nat} {x y : Int32} (hi : mi_at tb pc = some (.invokestatic index)) (h1 : Cond.methodLink (P.2.2.2.1 k).1.cls index Lib.Math.min.name ∈ P.2.1) (h2 : Cond.static Lib.Math.min.name ∈ P.2.1) (h3 : Cond.initialized "java/lang/Math" ∈ P.2.1) (h4 : Cond.code Lib.Math.min.name Lib.Math.min.code 2 (some .int) ∈ P.2.1) (hd : 1 ≤ d) (hst : (st.map fun v => v.category).sum ≤ 8)
    (w : mi_WX QX P X k d mc ms (pc + 3) lv (.int (if y < x then y else x) :: st) h Q) : mi_WX QX P X k d mc ms pc lv (.int y :: .int x :: st) h Q := by
  intro p l e R s m args below meth c H locs cells slots Z D dA b0 xa ls F hS hmc hms hR hl hZ
  have hw := w p l e R s m args below meth c H locs cells slots Z D dA b0 xa ls F hS hmc hms hR hl hZ
  obtain ⟨hx, hb, hml, hown, hts, hnm, -, -, hf1, hf2, hz0, hK, -, -, hNw⟩ := F
  exact va_mmin hx hb (hml.trans hl.1.symm) hown (hts _ h1) (hts _ h2) (hts _ h3) (hts _ h4) (by omega) (by rw [mi_sum]; omega) (by omega) (by omega) (ht pc _ (mi_at_mem hi)) hw
end MIE
end
section
-- throws over plain values
section MIT
variable {QX : Nat → Nat → mi_H → Prop} {P : mi_P} {X : mi_X} {k d mc ms pc : Nat} {lv : mi_L} {st : List Value} {h : mi_H} {Q : Option Value → mi_H → Prop} {tb : List (Nat × Instr)}
/-- the cell a is a thing of the kind ce, with nothing in it that is named -/
def mi_cX (P : mi_P) (h : mi_H) (ce a : Nat) : Prop := P.2.2.2.2.2.1 ≤ a ∧ a < h.1 ∧ h.2 a = .inr (ce, [])
/-- from the place pc, with the thing at a thrown over the frame -/
def mi_TX (QX : Nat → Nat → mi_H → Prop) (P : mi_P) (X : mi_X) (k d mc ms pc : Nat) (lv : mi_L) (a : Nat) (h : mi_H) (Q : Option Value → mi_H → Prop) : Prop :=
  ∀ (p : Program) (l : Launch) (e : Env) (R : Room) (s : State) (m : MethodId) (args : Array Value) (below : List Frame) (meth : Method) (c : Code) (H : Heap) (locs : List Loc) (cells slots : Nat) (Z : State → Prop) (D : va_G) (dA : Nat → ClassId) (b0 : Nat) (xa : Nat → Nat) (ls : Array Slot) (st1 : List Value),
    mi_F P X k d p l R s m args meth c D dA b0 xa → va_S (fun q => b0 ≤ q) s.heap H locs → cells + mc ≤ R.cells → slots + ms ≤ R.slots → mi_R P D dA b0 xa H h → lv_has ls (P.2.2.2.1 k).2.2.1 (mi_lv (mi_ad P.2.2.2.2.2.1 b0 xa) lv) →
    ((∀ (H1 : Heap) (locs1 : List Loc) (cells1 slots1 : Nat) (h1 : mi_H) (r : Option Value) (pc1 : Nat) (ls1 : Array Slot), va_S (fun q => b0 ≤ q) s.heap H1 locs1 → cells1 ≤ R.cells → slots1 ≤ R.slots → mi_R P D dA b0 xa H1 h1 → Q r h1 → mi_rt (P.2.2.2.1 k).2.1 pc1 (P.2.2.2.1 k).2.2.2 r →
      W p l e R s m args below meth c H1 locs1 cells1 slots1 Z (F0 m pc1 ls1 (r.toList.map (mi_V (mi_ad P.2.2.2.2.2.1 b0 xa))))) ∧
    (∀ (H1 : Heap) (locs1 : List Loc) (cells1 slots1 : Nat) (h1 : mi_H) (ce a pc1 : Nat) (ls1 : Array Slot) (st1 : List Value), va_S (fun q => b0 ≤ q) s.heap H1 locs1 → cells1 ≤ R.cells → slots1 ≤ R.slots → mi_R P D dA b0 xa H1 h1 → (P.2.2.2.2.2.1 ≤ a ∧ a < h1.1 ∧ h1.2 a = .inr (ce, [])) → QX ce a h1 → (∀ x ∈ c.exceptionTable.toList, covers x pc1 = false) →
      mi_T p l e R s m args below meth c H1 locs1 cells1 slots1 Z (F0 m pc1 ls1 st1) (mi_ad P.2.2.2.2.2.1 b0 xa a))) →
    mi_T p l e R s m args below meth c H locs cells slots Z (F0 m pc ls st1) (mi_ad P.2.2.2.2.2.1 b0 xa a)
/-- no handler here: it leaves the method -/
theorem mi_TX.out {ce a : Nat} (hc : mi_cX P h ce a) (hq : QX ce a h) (ho : ∀ x ∈ tableOf (P.2.2.2.2.2.2.2.1 k), covers x pc = false) : mi_TX QX P X k d mc ms pc lv a h Q := by
  intro p l e R s m args below meth c H locs cells slots Z D dA b0 xa ls st1 F hS hmc hms hR hl hZ
  exact hZ.2 H locs cells slots h ce a pc ls st1 hS (by omega) (by omega) hR hc hq (by rw [F.2.2.2.2.2.1.2.1]; exact ho)
/-- the cell of a thing that is thrown, in the heap -/
theorem mi_cell {D : va_G} {dA : Nat → ClassId} {b0 : Nat} {xa : Nat → Nat} {s : State} {H : Heap} {ce a : Nat} {E : String} (hU : mi_U P X D dA b0 xa s) (hR : mi_R P D dA b0 xa H h) (hc : mi_cX P h ce a) (hE : (P.1[ce]?).map (·.1) = some E) : ∃ cell : Cell, H[mi_ad P.2.2.2.2.2.1 b0 xa a]? = some cell ∧ cell.vm = .none ∧ s.vm.findClass E = some cell.cls := by
  obtain ⟨c1, c2, c3⟩ := hc
  have he := mi_w_at (dA := dA) (E := P.2.2.2.2.2.1) (b0 := b0) (xa := xa) (h := h) c1 c2
  rw [c3] at he
  obtain ⟨r, hr, cell, q1, q2, q3, -⟩ := hR.2.2 _ _ he
  have hr9 : P.1[ce]? = some r := hr
  have hf := (hU.2.1.1 ce r hr9).2.1
  rw [hr9] at hE
  have hE9 : r.1 = E := Option.some.inj hE
  exact ⟨cell, q1, q3, by rw [← hE9, hf, q2]⟩
set_option maxHeartbeats 4000000 in
/-- a handler takes it: the row x of the table, past rows that name other classes -/
theorem mi_TX.take {ce a : Nat} {E nm : String} (hc : mi_cX P h ce a) (hE : (P.1[ce]?).map (·.1) = some E) (pre : List ExceptionTableEntry) (x : ExceptionTableEntry) (suf : List ExceptionTableEntry) (hsplit : tableOf (P.2.2.2.2.2.2.2.1 k) = pre ++ x :: suf)
    (hpass : ∀ z ∈ pre, covers z pc = false ∨ (z.catchType ≠ 0 ∧ ∃ nm : String, Cond.classLink (P.2.2.2.1 k).1.cls z.catchType nm ∈ P.2.1 ∧ ∀ (b0 : Nat) (U : State) (H : Heap), P.2.2.2.2.2.2.2.2 b0 U H → va_Nc E nm U)) (hx : covers x pc = true) (h0 : x.catchType ≠ 0)
    (hlink : Cond.classLink (P.2.2.2.1 k).1.cls x.catchType nm ∈ P.2.1) (hcast : ∀ (b0 : Nat) (U : State) (H : Heap), P.2.2.2.2.2.2.2.2 b0 U H → va_Nw (.castable E nm) U) (w : mi_WX QX P X k d mc ms x.handlerPc lv [.ref a] h Q) : mi_TX QX P X k d mc ms pc lv a h Q := by
  intro p l e R s m args below meth c H locs cells slots Z D dA b0 xa ls st1 F hS hmc hms hR hl hZ
  have hw := w p l e R s m args below meth c H locs cells slots Z D dA b0 xa ls F hS hmc hms hR hl hZ
  obtain ⟨hx', hb, hml, hown, hts, hnm, hg, hnw, hf1, hf2, hU⟩ := F
  obtain ⟨cell, q1, q2, q3⟩ := mi_cell hU hR hc hE
  exact vx_catch (own := (P.2.2.2.1 k).1.cls) (name := nm) (E := E) (ce := cell) hown pre x suf (by rw [hnm.2.1]; exact hsplit) (fun z hz => by
    rcases hpass z hz with h1 | ⟨h1, n1, h2, h3⟩
    · exact Or.inl h1
    · exact Or.inr ⟨h1, n1, hts _ h2, h3 _ _ _ hU.2.2.2.1.2⟩) hx h0 (hts _ hlink) (va_Nw.use rfl (hcast _ _ _ hU.2.2.2.1.2)) q1 q2 q3 hw
/-- athrow -/
theorem mi_athrow (ht : mi_tb (P.2.2.2.1 k).2.1 tb) {a : Nat} (hi : mi_at tb pc = some .athrow) (w : mi_TX QX P X k d mc ms pc lv a h Q) : mi_WX QX P X k d mc ms pc lv (.ref a :: st) h Q := by
  intro p l e R s m args below meth c H locs cells slots Z D dA b0 xa ls F hS hmc hms hR hl hZ
  exact vx_athrow F.1 F.2.1 (ht pc _ (mi_at_mem hi)) (w p l e R s m args below meth c H locs cells slots Z D dA b0 xa ls _ F hS hmc hms hR hl hZ)
/-- the words of 'new E("text")' -/
def mi_xw (P : mi_P) (own : String) (ik is ic ce : Nat) (cls text : String) (names : List String) : Prop :=
  ((P.1[ce]?).map (fun q => (q.1, q.2.2)) = some (cls, 0) ∧ Bundle.fit cls = true ∧ ∀ n ∈ names, Bundle.fit n = true) ∧ (∀ w ∈ Cond.classLink own ik cls :: Cond.initialized cls :: vx_atS own ic cls names, (w ∈ P.2.1 ∨ w.onTables = true ∧ ∀ (b0 : Nat) (U : State) (H : Heap), P.2.2.2.2.2.2.2.2 b0 U H → va_Nw w U) ∧ vx_ot w = true) ∧
  (∀ (b0 : Nat) (U : State) (H : Heap), P.2.2.2.2.2.2.2.2 b0 U H → vx_Zq Bundle.tN "UNASSIGNED_STACK" Bundle.steD (fun q => b0 ≤ q) U H ∧ vx_Zq Bundle.tN "SUPPRESSED_SENTINEL" Bundle.listD (fun q => b0 ≤ q) U H ∧ ∃ sa : Nat, vk_R own is text sa U)
theorem mi_xw.at {own : String} {ik is ic ce : Nat} {cls text : String} {names : List String} (xw : mi_xw P own ik is ic ce cls text names) {args : Array Value} {b0 : Nat} {s : State} {H : Heap} (hts : ∀ w ∈ P.2.1, w.before args s = true) (hK : P.2.2.2.2.2.2.2.2 b0 s H) : ∀ w ∈ Cond.classLink own ik cls :: Cond.initialized cls :: vx_atS own ic cls names, w.before args s = true := by
  intro w hw
  rcases (xw.2.1 w hw).1 with h | ⟨h1, h2⟩
  · exact hts w h
  · exact va_Nw.use h1 (h2 _ _ _ hK)
theorem mi_psR {D : va_G} {dA : Nat → ClassId} {b0 : Nat} {xa : Nat → Nat} {H : Heap} (hR : mi_R P D dA b0 xa H h) : mi_ad P.2.2.2.2.2.1 b0 xa h.1 = H.size := by
  unfold mi_ad
  rw [if_neg (by have := hR.1; omega), hR.2.1]
set_option maxHeartbeats 4000000 in
/-- new E("text") -/
theorem mi_mkx (ht : mi_tb (P.2.2.2.1 k).2.1 tb) {ik is ic ce : Nat} {cls text : String} {names : List String} (hi0 : mi_at tb pc = some (.new ik)) (hi3 : mi_at tb (pc + 3) = some .dup) (hi4 : mi_at tb (pc + 4) = some (.ldc is)) (hi6 : mi_at tb (pc + 6) = some (.invokespecial ic))
    (xw : mi_xw P (P.2.2.2.1 k).1.cls ik is ic ce cls text names) (hd : names.length + 3 < d) (hst : (st.map fun v => v.category).sum ≤ 8)
    (w : mi_WX QX P X k d mc ms (pc + 9) lv (.ref h.1 :: st) (h.1 + 1, va_up h.2 h.1 (.inr (ce, []))) Q) : mi_WX QX P X k d (mc + 1) (ms + 6) pc lv st h Q := by
  intro p l e R s m args below meth c H locs cells slots Z D dA b0 xa ls F hS hmc hms hR hl hZ
  have F0' := F
  obtain ⟨hx, hb, hml, hown, hts, hnm, hg, hnw, hf1, hf2, hU⟩ := F
  have hat := xw.at hts hU.2.2.2.1.2
  obtain ⟨⟨h1, h2, h3⟩, h4, h5⟩ := xw
  obtain ⟨u1, u2, sa, u3⟩ := h5 _ _ _ hU.2.2.2.1.2
  obtain ⟨⟨C, T0, N⟩, g1, g2⟩ := Option.map_eq_some_iff.mp h1
  cases g2
  have ea := mi_psR (P := P) hR
  have hr : ((st.map (mi_V (mi_ad P.2.2.2.2.2.1 b0 xa))).map fun v => v.category).sum ≤ 8 := by rw [mi_sum]; exact hst
  refine vx_makeS (T0 := T0) (ci := ce) hx hb hnm.2.2 hown h2 h3 (hat _ List.mem_cons_self) (hat _ (List.mem_cons_of_mem _ List.mem_cons_self)) u3 (fun w hw => hat w (List.mem_cons_of_mem _ (List.mem_cons_of_mem _ hw))) (fun w hw => (h4 w hw).2) u1 u2 hS (hl.1.trans hml.symm)
    (ht _ _ (mi_at_mem hi0)) (ht _ _ (mi_at_mem hi3)) (ht _ _ (mi_at_mem hi4)) (ht _ _ (mi_at_mem hi6)) hU.2.1 g1 (by omega) (by omega) (by omega) (by omega) fun H1 z1 o1 e1 hS1 => ?_
  have hw := w p l e R s m args below meth c H1 locs (cells + 1) (slots + 6) Z D dA b0 xa ls F0' hS1 (by omega) (by omega) (hR.push (.inr (ce, [])) e1 z1 o1) hl hZ
  rw [List.map_cons, show mi_V (mi_ad P.2.2.2.2.2.1 b0 xa) (.ref h.1) = .ref H.size from congrArg Value.ref ea] at hw
  exact hw
set_option maxHeartbeats 4000000 in
theorem mi_mkxW (ht : mi_tb (P.2.2.2.1 k).2.1 tb) {ik is ic ce : Nat} {cls text : String} {names : List String} (hi0 : mi_at tb pc = some (.new ik)) (hi3 : mi_at tb (pc + 3) = some .dup) (hi4 : mi_at tb (pc + 4) = some (.ldc_w is)) (hi6 : mi_at tb (pc + 7) = some (.invokespecial ic))
    (xw : mi_xw P (P.2.2.2.1 k).1.cls ik is ic ce cls text names) (hd : names.length + 3 < d) (hst : (st.map fun v => v.category).sum ≤ 8)
    (w : mi_WX QX P X k d mc ms (pc + 10) lv (.ref h.1 :: st) (h.1 + 1, va_up h.2 h.1 (.inr (ce, []))) Q) : mi_WX QX P X k d (mc + 1) (ms + 6) pc lv st h Q := by
  intro p l e R s m args below meth c H locs cells slots Z D dA b0 xa ls F hS hmc hms hR hl hZ
  have F0' := F
  obtain ⟨hx, hb, hml, hown, hts, hnm, hg, hnw, hf1, hf2, hU⟩ := F
  have hat := xw.at hts hU.2.2.2.1.2
  obtain ⟨⟨h1, h2, h3⟩, h4, h5⟩ := xw
  obtain ⟨u1, u2, sa, u3⟩ := h5 _ _ _ hU.2.2.2.1.2
  obtain ⟨⟨C, T0, N⟩, g1, g2⟩ := Option.map_eq_some_iff.mp h1
  cases g2
  have ea := mi_psR (P := P) hR
  have hr : ((st.map (mi_V (mi_ad P.2.2.2.2.2.1 b0 xa))).map fun v => v.category).sum ≤ 8 := by rw [mi_sum]; exact hst
  refine vx_makeSW (T0 := T0) (ci := ce) hx hb hnm.2.2 hown h2 h3 (hat _ List.mem_cons_self) (hat _ (List.mem_cons_of_mem _ List.mem_cons_self)) u3 (fun w hw => hat w (List.mem_cons_of_mem _ (List.mem_cons_of_mem _ hw))) (fun w hw => (h4 w hw).2) u1 u2 hS (hl.1.trans hml.symm)
    (ht _ _ (mi_at_mem hi0)) (ht _ _ (mi_at_mem hi3)) (ht _ _ (mi_at_mem hi4)) (ht _ _ (mi_at_mem hi6)) hU.2.1 g1 (by omega) (by omega) (by omega) (by omega) fun H1 z1 o1 e1 hS1 => ?_
  have hw := w p l e R s m args below meth c H1 locs (cells + 1) (slots + 6) Z D dA b0 xa ls F0' hS1 (by omega) (by omega) (hR.push (.inr (ce, [])) e1 z1 o1) hl hZ
  rw [List.map_cons, show mi_V (mi_ad P.2.2.2.2.2.1 b0 xa) (.ref h.1) = .ref H.size from congrArg Value.ref ea] at hw
  exact hw
end MIT
/-- what a contract says of a throw -/
def mi_XC (P : mi_P) (D : va_G) (dA : Nat → ClassId) (b0 : Nat) (xa : Nat → Nat) (QX : Nat → Nat → mi_H → Prop) : String → Addr → State → State → Prop := fun E q st t =>
  (∃ (ce a : Nat) (h1 : mi_H), q = mi_ad P.2.2.2.2.2.1 b0 xa a ∧ mi_cX P h1 ce a ∧ QX ce a h1 ∧ (P.1[ce]?).map (·.1) = some E ∧ mi_R P D dA b0 xa t.heap h1) ∧ va_F (fun q => b0 ≤ q) st t
/-- the contract of a method that returns or throws -/
def mi_SX (P : mi_P) (X : mi_X) (k d : Nat) (avs : List Value) (h : mi_H) (mc ms : Nat) (Q : Option Value → mi_H → Prop) (QX : Nat → Nat → mi_H → Prop) : Prop :=
  ∀ (l : Launch), l.stackTraces = false → ∀ (D : va_G) (dA : Nat → ClassId) (b0 : Nat) (xa : Nat → Nat), vx_Met l (P.2.2.2.1 k).1 (.code (P.2.2.2.1 k).1 (P.2.2.2.1 k).2.1 (P.2.2.2.1 k).2.2.1 (P.2.2.2.1 k).2.2.2 :: P.2.1) { frames := d, cells := mc, slots := ms, locals := 32 * d }
    (va_Pc (avs.map (mi_V (mi_ad P.2.2.2.2.2.1 b0 xa))) (fun U => mi_U P X D dA b0 xa U ∧ mi_R P D dA b0 xa U.heap h))
    (fun _ st o t => (∃ (r : Option Value) (h1 : mi_H), o = .returned (r.map (mi_V (mi_ad P.2.2.2.2.2.1 b0 xa))) ∧ Q r h1 ∧ mi_R P D dA b0 xa t.heap h1) ∧ va_F (fun q => b0 ≤ q) st t) (mi_XC P D dA b0 xa QX) mc ms (fun q => b0 ≤ q)
/-- the contract of a method with a table of its own -/
def mi_SH (P : mi_P) (X : mi_X) (k d : Nat) (avs : List Value) (h : mi_H) (mc ms : Nat) (Q : Option Value → mi_H → Prop) : Prop :=
  ∀ (l : Launch), l.stackTraces = false → ∀ (D : va_G) (dA : Nat → ClassId) (b0 : Nat) (xa : Nat → Nat), Met l (P.2.2.2.1 k).1 (.codeWith (P.2.2.2.1 k).1 (P.2.2.2.1 k).2.1 (P.2.2.2.1 k).2.2.1 (P.2.2.2.1 k).2.2.2 (P.2.2.2.2.2.2.2.1 k) :: P.2.1) { frames := d, cells := mc, slots := ms, locals := 32 * d }
    (va_Pc (avs.map (mi_V (mi_ad P.2.2.2.2.2.1 b0 xa))) (fun U => mi_U P X D dA b0 xa U ∧ mi_R P D dA b0 xa U.heap h))
    (fun _ st o t => (∃ (r : Option Value) (h1 : mi_H), o = .returned (r.map (mi_V (mi_ad P.2.2.2.2.2.1 b0 xa))) ∧ Q r h1 ∧ mi_R P D dA b0 xa t.heap h1) ∧ va_F (fun q => b0 ≤ q) st t) mc ms (fun q => b0 ≤ q)
/-- a return out of a walk -/
theorem mi_leave {P : mi_P} {D : va_G} {dA : Nat → ClassId} {b0 : Nat} {xa : Nat → Nat} {k mc ms : Nat} {Q : Option Value → mi_H → Prop} {p : Program} {l : Launch} {e : Env} {R : Room} {s : State} {m : MethodId} {args : Array Value} {below : List Frame} {meth : Method} {c : Code} (hx : p.tables.exec = Jvm.exec) (hb : c.code = (P.2.2.2.1 k).2.1) (hr : meth.sig.returnType = (P.2.2.2.1 k).2.2.2) (hlocks : meth.locks = false)
    {H1 : Heap} {locs1 : List Loc} {cells1 slots1 : Nat} {h1 : mi_H} {r : Option Value} {pc1 : Nat} {ls1 : Array Slot} (hS1 : va_S (fun q => b0 ≤ q) s.heap H1 locs1) (hc1 : cells1 ≤ mc) (hs1 : slots1 ≤ ms) (hR1 : mi_R P D dA b0 xa H1 h1) (hQ : Q r h1) (hrt : mi_rt (P.2.2.2.1 k).2.1 pc1 (P.2.2.2.1 k).2.2.2 r) :
    W p l e R s m args below meth c H1 locs1 cells1 slots1 (MQ below (fun _ st o t => (∃ (r : Option Value) (h1 : mi_H), o = .returned (r.map (mi_V (mi_ad P.2.2.2.2.2.1 b0 xa))) ∧ Q r h1 ∧ mi_R P D dA b0 xa t.heap h1) ∧ va_F (fun q => b0 ≤ q) st t) args s mc ms (fun q => b0 ≤ q)) (F0 m pc1 ls1 (r.toList.map (mi_V (mi_ad P.2.2.2.2.2.1 b0 xa)))) := by
  refine W.widen (k := mc) (n := ms) hc1 hs1 ?_
  have hq : ∀ t : State, t.heap = H1 → s.WarmedH t.vm → ((∃ (r' : Option Value) (h1 : mi_H), Outcome.returned (r.map (mi_V (mi_ad P.2.2.2.2.2.1 b0 xa))) = .returned (r'.map (mi_V (mi_ad P.2.2.2.2.2.1 b0 xa))) ∧ Q r' h1 ∧ mi_R P D dA b0 xa t.heap h1) ∧ va_F (fun q => b0 ≤ q) s t) := fun t ht _ => ⟨⟨r, h1, rfl, hQ, by rw [ht]; exact hR1⟩, hS1.F ht⟩
  cases r with
  | none => exact W.vret hx hb (by rw [hr]; exact hrt.2) hq hS1.2.2 hrt.1
  | some v =>
    cases v with
    | int v =>
      obtain ⟨g1, ty, g2, g3⟩ := hrt
      exact W.zret (ty := ty) hx hb (by rw [hr]; exact g2) g3 hq hS1.2.2 g1
    | long v => exact W.lret hx hb (by rw [hr]; exact hrt.2) hq hS1.2.2 hrt.1
    | float v => exact W.fret hx hb (by rw [hr]; exact hrt.2) hq hS1.2.2 hrt.1
    | double v => exact W.dret hx hb (by rw [hr]; exact hrt.2) hq hS1.2.2 hrt.1
    | null =>
      obtain ⟨g1, rt, g2, g3⟩ := hrt
      exact W.aret (rt := rt) hx hb (by rw [hr]; exact g2) g3 (Or.inl rfl) hq hS1.2.2 g1
    | ref a =>
      obtain ⟨g1, rt, g2, g3⟩ := hrt
      exact W.aret (rt := rt) hx hb (by rw [hr]; exact g2) g3 (Or.inr ⟨_, rfl⟩) hq hS1.2.2 g1
    | retAddr pc => exact absurd hrt id
set_option maxHeartbeats 4000000 in
theorem mi_SX.of {P : mi_P} {X : mi_X} {k d : Nat} {avs : List Value} {h : mi_H} {mc ms : Nat} {Q : Option Value → mi_H → Prop} {QX : Nat → Nat → mi_H → Prop} (hok : mi_ok P) (hht : P.2.2.2.2.2.2.2.1 k = []) (hy : plainName (P.2.2.2.1 k).1.cls = true) (hn : (lg_sl avs).length ≤ (P.2.2.2.1 k).2.2.1)
    (body : mi_WX QX P X k d mc ms 0 (lv_args 0 avs) [] h Q) : mi_SX P X k d avs h mc ms Q QX := by
  intro l hls D dA b0 xa
  refine vx_ofW (cc := (P.2.2.2.1 k).2.1) (maxL := (P.2.2.2.1 k).2.2.1) (ret := (P.2.2.2.1 k).2.2.2) hy rfl ?_
  intro p e s m args below meth c s₁ B hml htab0 hv
  obtain ⟨rfl, hU, hR⟩ := hv
  have hts := atoms_spec (ws := (.code (P.2.2.2.1 k).1 (P.2.2.2.1 k).2.1 (P.2.2.2.1 k).2.2.1 (P.2.2.2.1 k).2.2.2 :: P.2.1)) B.pre
  have hx := B.exec
  have hb := B.bytes
  have hr := B.returns
  have hlocks := B.notSynchronized
  have htab : c.exceptionTable.toList = tableOf (P.2.2.2.2.2.2.2.1 k) := by
    rw [hht]
    exact List.eq_nil_iff_forall_not_mem.mpr fun x hx => htab0 x hx
  have hl := lv_entry (avs.map (mi_V (mi_ad P.2.2.2.2.2.1 b0 xa))) (n := (P.2.2.2.1 k).2.2.1) (by rw [mi_sl]; exact hn)
  rw [mi_args] at hl
  rw [lg_entry_eq]
  generalize (lg_sl (avs.map (mi_V (mi_ad P.2.2.2.2.2.1 b0 xa))) ++ List.replicate ((P.2.2.2.1 k).2.2.1 - (lg_sl (avs.map (mi_V (mi_ad P.2.2.2.2.2.1 b0 xa)))).length) Slot.unset).toArray = ls at hl ⊢
  refine body p l e _ s m _ below meth c s.heap [] 0 0 _ D dA b0 xa ls ⟨hx, hb, hml, findClass_of_methodNamed B.named, fun w hw => hts w (List.mem_cons_of_mem _ hw), ⟨fun q => (name_of_methodNamed B.named B.method).1.trans q, htab, hls⟩, hok.1, hok.2, Nat.le_refl _, Nat.le_refl _, hU⟩ va_S.rf (by rw [Nat.zero_add]; exact Nat.le_refl _) (by rw [Nat.zero_add]; exact Nat.le_refl _) hR hl ⟨?_, ?_⟩
  · intro H1 locs1 cells1 slots1 h1 r pc1 ls1 hS1 hc1 hs1 hR1 hQ hrt
    exact vx_ret (mi_leave hx hb hr hlocks hS1 hc1 hs1 hR1 hQ hrt)
  · intro H1 locs1 cells1 slots1 h1 ce a pc1 ls1 st1 hS1 hc1 hs1 hR1 hcX hqx hout
    obtain ⟨c1, c2, c3⟩ := id hcX
    have he := mi_w_at (dA := dA) (E := P.2.2.2.2.2.1) (b0 := b0) (xa := xa) (h := h1) c1 c2
    rw [c3] at he
    obtain ⟨r, hr9, -⟩ := hR1.2.2 _ _ he
    have hr9 : P.1[ce]? = some r := hr9
    have hE : (P.1[ce]?).map (·.1) = some r.1 := by rw [hr9]; rfl
    obtain ⟨cell, q1, q2, q3⟩ := mi_cell hU hR1 hcX hE
    exact vx_out (E := r.1) (ce := cell) hout hlocks q1 q2 q3 (fun t ht _ => ⟨⟨ce, a, h1, rfl, hcX, hqx, hE, by rw [ht]; exact hR1⟩, hS1.F ht⟩) hS1.2.2 hc1 hs1
set_option maxHeartbeats 4000000 in
theorem mi_SH.of {P : mi_P} {X : mi_X} {k d : Nat} {avs : List Value} {h : mi_H} {mc ms : Nat} {Q : Option Value → mi_H → Prop} (hok : mi_ok P) (hy : plainName (P.2.2.2.1 k).1.cls = true) (hn : (lg_sl avs).length ≤ (P.2.2.2.1 k).2.2.1)
    (body : mi_W P X k d mc ms 0 (lv_args 0 avs) [] h Q) : mi_SH P X k d avs h mc ms Q := by
  intro l hls D dA b0 xa
  refine vx_MetH (cc := (P.2.2.2.1 k).2.1) (maxL := (P.2.2.2.1 k).2.2.1) (ret := (P.2.2.2.1 k).2.2.2) (hh := P.2.2.2.2.2.2.2.1 k) hy rfl ?_
  intro p e s m args below meth c s₁ B hml hv
  obtain ⟨rfl, hU, hR⟩ := hv
  have hts := atoms_spec (ws := (.codeWith (P.2.2.2.1 k).1 (P.2.2.2.1 k).2.1 (P.2.2.2.1 k).2.2.1 (P.2.2.2.1 k).2.2.2 (P.2.2.2.2.2.2.2.1 k) :: P.2.1)) B.pre
  have hx := B.exec
  have hb := B.bytes
  have hr := B.returns
  have hlocks := B.notSynchronized
  have htab : c.exceptionTable.toList = tableOf (P.2.2.2.2.2.2.2.1 k) := vx_table B (hts _ List.mem_cons_self)
  have hl := lv_entry (avs.map (mi_V (mi_ad P.2.2.2.2.2.1 b0 xa))) (n := (P.2.2.2.1 k).2.2.1) (by rw [mi_sl]; exact hn)
  rw [mi_args] at hl
  rw [lg_entry_eq]
  generalize (lg_sl (avs.map (mi_V (mi_ad P.2.2.2.2.2.1 b0 xa))) ++ List.replicate ((P.2.2.2.1 k).2.2.1 - (lg_sl (avs.map (mi_V (mi_ad P.2.2.2.2.2.1 b0 xa)))).length) Slot.unset).toArray = ls at hl ⊢
  refine body p l e _ s m _ below meth c s.heap [] 0 0 _ D dA b0 xa ls ⟨hx, hb, hml, findClass_of_methodNamed B.named, fun w hw => hts w (List.mem_cons_of_mem _ hw), ⟨fun q => (name_of_methodNamed B.named B.method).1.trans q, htab, hls⟩, hok.1, hok.2, Nat.le_refl _, Nat.le_refl _, hU⟩ va_S.rf (by rw [Nat.zero_add]; exact Nat.le_refl _) (by rw [Nat.zero_add]; exact Nat.le_refl _) hR hl ⟨?_, fun _ _ _ _ _ _ _ _ _ _ _ _ _ _ _ hqx _ => hqx.elim⟩
  intro H1 locs1 cells1 slots1 h1 r pc1 ls1 hS1 hc1 hs1 hR1 hQ hrt
  exact mi_leave hx hb hr hlocks hS1 hc1 hs1 hR1 hQ hrt
theorem mi_backX {P : mi_P} {D : va_G} {dA : Nat → ClassId} {b0 : Nat} {xa : Nat → Nat} {p : Program} {l : Launch} {e : Env} {R : Room} {s : State} {m : MethodId} {args : Array Value} {below : List Frame} {meth : Method} {c : Code} {H : Heap} {locs : List Loc} {cells slots mc ms pc : Nat} {Z : State → Prop} {ls : Array Slot} {st0 rest : List Value} {Q : Option Value → mi_H → Prop} {QX : Nat → Nat → mi_H → Prop} (hb0 : b0 ≤ s.heap.size)
    (hr : vx_Run p l e R s m args below meth c H locs cells slots mc ms (F0 m pc ls st0) rest (fun st o t => (∃ (r : Option Value) (h1 : mi_H), o = .returned (r.map (mi_V (mi_ad P.2.2.2.2.2.1 b0 xa))) ∧ Q r h1 ∧ mi_R P D dA b0 xa t.heap h1) ∧ va_F (fun q => b0 ≤ q) st t) (mi_XC P D dA b0 xa QX) (fun q => b0 ≤ q)) (hS : va_S (fun q => b0 ≤ q) s.heap H locs)
    (kk : ∀ (r : Option Value) (h1 : mi_H) (H1 : Heap) (locs1 : List Loc), Q r h1 → mi_R P D dA b0 xa H1 h1 → va_S (fun q => b0 ≤ q) s.heap H1 locs1 → W p l e R s m args below meth c H1 locs1 (cells + mc) (slots + ms) Z (F0 m (pc + 3) ls ((r.map (mi_V (mi_ad P.2.2.2.2.2.1 b0 xa))).toList ++ rest)))
    (kx : ∀ (ce a : Nat) (h1 : mi_H) (H1 : Heap) (locs1 : List Loc), mi_cX P h1 ce a → QX ce a h1 → mi_R P D dA b0 xa H1 h1 → va_S (fun q => b0 ≤ q) s.heap H1 locs1 → mi_T p l e R s m args below meth c H1 locs1 (cells + mc) (slots + ms) Z (F0 m pc ls rest) (mi_ad P.2.2.2.2.2.1 b0 xa a)) : W p l e R s m args below meth c H locs cells slots Z (F0 m pc ls st0) := by
  intro T hT Xs
  rcases hr T hT Xs with ⟨v, st₀, t, T', L, h0, X', hL, e1, e2, ⟨⟨r, h1, hv, hq, hR1⟩, hz, hk⟩, st⟩ | ⟨q, st₀, t, T', L, E, ce, h0, X', hL, e1, e2, ⟨⟨ce9, a, h1, rfl, hcX, hqx, -, hR1⟩, hz, hk⟩, hce, hcv, hcl, st⟩
  · cases hv
    rw [h0] at hz hk
    obtain ⟨t2, a1, b1⟩ := kk r h1 T'.heap (locs ++ L) hq (by rw [e1]; exact hR1)
      ⟨Nat.le_trans hS.1 (by rw [e1]; exact hz), fun q h1 h2 => by rw [e1, hk q (Nat.lt_of_lt_of_le h1 hS.1) h2]; exact hS.2.1 q h1 h2, fun q hq => by
        rcases List.mem_append.mp hq with h | h
        · exact hS.2.2 q h
        · exact hL q h⟩ T' rfl X'
    exact ⟨t2, st t2 a1, b1⟩
  · rw [h0] at hz hk
    obtain ⟨t2, a1, b1⟩ := kx ce9 a h1 T'.heap (locs ++ L) hcX hqx (by rw [e1]; exact hR1)
      ⟨Nat.le_trans hS.1 (by rw [e1]; exact hz), fun q h1 h2 => by rw [e1, hk q (Nat.lt_of_lt_of_le h1 hS.1) h2]; exact hS.2.1 q h1 h2, fun q hq => by
        rcases List.mem_append.mp hq with h | h
        · exact hS.2.2 q h
        · exact hL q h⟩ T' rfl X'
    exact ⟨t2, st.trans a1, b1⟩
section MICX
variable {QX : Nat → Nat → mi_H → Prop} {P : mi_P} {X : mi_X} {k d mc ms pc : Nat} {lv : mi_L} {st : List Value} {h : mi_H} {Q : Option Value → mi_H → Prop} {tb : List (Nat × Instr)}
set_option maxHeartbeats 4000000 in
theorem mi_callVX (ht : mi_tb (P.2.2.2.1 k).2.1 tb) {index k' d' mc' ms' b ci n : Nat} {As : List Value} {fs : List Value} {Q' : Option Value → mi_H → Prop} {QX' : Nat → Nat → mi_H → Prop} (hi : mi_at tb pc = some (.invokevirtual index)) (cw : mi_cV P (P.2.2.2.1 k).1.cls index k' n) (hn : As.length = n) (hd : d' + 1 ≤ d) (hE : P.2.2.2.2.2.1 ≤ b) (hb' : b < h.1) (hc : h.2 b = .inr (ci, fs)) (hci : (P.1[ci]?).map (·.1) = some (P.2.2.2.1 k').1.cls) (hst : (st.map fun v => v.category).sum ≤ 8)
    (hS' : mi_SX P X k' d' (.ref b :: As) h mc' ms' Q' QX') (w : ∀ (r : Option Value) (h1 : mi_H), Q' r h1 → mi_WX QX P X k d mc ms (pc + 3) lv (r.toList ++ st) h1 Q) (wx : ∀ (ce a : Nat) (h1 : mi_H), mi_cX P h1 ce a → QX' ce a h1 → mi_TX QX P X k d mc ms pc lv a h1 Q) : mi_WX QX P X k d (mc + mc') (ms + ms') pc lv (As.reverse ++ .ref b :: st) h Q := by
  intro p l e R s m args below meth c H locs cells slots Z D dA b0 xa ls F hS hmc hms hR hl hZ
  have F0' := F
  obtain ⟨hx, hb, hml, hown, hts, hnm, hg, hnw, hf1, hf2, hU⟩ := F
  obtain ⟨⟨⟨w1, w2, w3⟩, w4⟩, w5, w6, w7⟩ := cw
  have he := mi_w_at (dA := dA) (E := P.2.2.2.2.2.1) (b0 := b0) (xa := xa) (h := h) hE hb'
  rw [hc] at he
  obtain ⟨q, hq1, hq2⟩ := Option.map_eq_some_iff.mp hci
  have hrec := va_recv hU.2.1 hR.2.2 hq1 he
  rw [hq2] at hrec
  have hws : ∀ w ∈ wsV (P.2.2.2.1 k).1.cls index (P.2.2.2.1 k').1.cls (P.2.2.2.1 k').1 (.code (P.2.2.2.1 k').1 (P.2.2.2.1 k').2.1 (P.2.2.2.1 k').2.2.1 (P.2.2.2.1 k').2.2.2 :: P.2.1), w ∈ P.2.1 := by
    intro w hw
    rcases List.mem_append.mp hw with h1 | h1
    · simp only [List.mem_cons, List.not_mem_nil, or_false] at h1
      rcases h1 with rfl | rfl | rfl | rfl <;> assumption
    · rcases List.mem_cons.mp h1 with rfl | h1
      · exact w1
      · exact h1
  have e0 : (As.reverse ++ .ref b :: st).map (mi_V (mi_ad P.2.2.2.2.2.1 b0 xa)) = (As.map (mi_V (mi_ad P.2.2.2.2.2.1 b0 xa))).reverse ++ .ref (mi_ad P.2.2.2.2.2.1 b0 xa b) :: st.map (mi_V (mi_ad P.2.2.2.2.2.1 b0 xa)) := by
    rw [List.map_append, List.map_reverse]; rfl
  rw [e0]
  refine mi_backX hU.1 (vx_runV ⟨hx, hb, hml, hown, hts⟩ (hS' l F0'.2.2.2.2.2.1.2.2 D dA b0 xa) (cwV n hts (mi_good hg hws) rfl rfl rfl ⟨rfl, w4⟩ ⟨by show d' + 1 ≤ R.frames; omega, by show 8 + (_ + 11) + 32 * d' ≤ R.locals; omega⟩) ⟨mi_blind hnw, hrec, fun U hU' hW => ⟨rfl, hU.go hS hnw hU' hW, by rw [hU']; exact hR⟩⟩ rfl (by rw [List.length_map]; exact hn) hl.1 rfl (lv_room (by rw [mi_sum]; exact hst)) (ht pc _ (mi_at_mem hi)) ⟨by omega, by omega⟩) hS (fun r h1 H1 locs1 hQ hR1 hS1 => ?_) (fun ce a h1 H1 locs1 hcX hqx hR1 hS1 => wx ce a h1 hcX hqx p l e R s m args below meth c H1 locs1 (cells + mc') (slots + ms') Z D dA b0 xa ls _ F0' hS1 (by omega) (by omega) hR1 hl hZ)
  have hw := w r h1 hQ p l e R s m args below meth c H1 locs1 (cells + mc') (slots + ms') Z D dA b0 xa ls F0' hS1 (by omega) (by omega) hR1 hl hZ
  rw [List.map_append] at hw
  cases r <;> exact hw
set_option maxHeartbeats 4000000 in
theorem mi_callSX (ht : mi_tb (P.2.2.2.1 k).2.1 tb) {index k' d' mc' ms' n : Nat} {As : List Value} {Q' : Option Value → mi_H → Prop} {QX' : Nat → Nat → mi_H → Prop} (hi : mi_at tb pc = some (.invokestatic index)) (cw : mi_cS P (P.2.2.2.1 k).1.cls index k' n) (hn : As.length = n) (hd : d' + 1 ≤ d) (hst : (st.map fun v => v.category).sum ≤ 8)
    (hS' : mi_SX P X k' d' As h mc' ms' Q' QX') (w : ∀ (r : Option Value) (h1 : mi_H), Q' r h1 → mi_WX QX P X k d mc ms (pc + 3) lv (r.toList ++ st) h1 Q) (wx : ∀ (ce a : Nat) (h1 : mi_H), mi_cX P h1 ce a → QX' ce a h1 → mi_TX QX P X k d mc ms pc lv a h1 Q) : mi_WX QX P X k d (mc + mc') (ms + ms') pc lv (As.reverse ++ st) h Q := by
  intro p l e R s m args below meth c H locs cells slots Z D dA b0 xa ls F hS hmc hms hR hl hZ
  have F0' := F
  obtain ⟨hx, hb, hml, hown, hts, hnm, hg, hnw, hf1, hf2, hU⟩ := F
  obtain ⟨⟨⟨w1, w2, w3⟩, w4⟩, w5, w6⟩ := cw
  have hws : ∀ w ∈ va_wsS (P.2.2.2.1 k).1.cls index (P.2.2.2.1 k').1 (.code (P.2.2.2.1 k').1 (P.2.2.2.1 k').2.1 (P.2.2.2.1 k').2.2.1 (P.2.2.2.1 k').2.2.2 :: P.2.1), w ∈ P.2.1 := by
    intro w hw
    rcases List.mem_append.mp hw with h1 | h1
    · simp only [List.mem_cons, List.not_mem_nil, or_false] at h1
      rcases h1 with rfl | rfl | rfl <;> assumption
    · rcases List.mem_cons.mp h1 with rfl | h1
      · exact w1
      · exact h1
  have e0 : (As.reverse ++ st).map (mi_V (mi_ad P.2.2.2.2.2.1 b0 xa)) = (As.map (mi_V (mi_ad P.2.2.2.2.2.1 b0 xa))).reverse ++ st.map (mi_V (mi_ad P.2.2.2.2.2.1 b0 xa)) := by
    rw [List.map_append, List.map_reverse]
  rw [e0]
  refine mi_backX hU.1 (vx_runS ⟨hx, hb, hml, hown, hts⟩ (hS' l F0'.2.2.2.2.2.1.2.2 D dA b0 xa) (va_cwS n hts (mi_good hg hws) rfl rfl rfl w4 ⟨by show d' + 1 ≤ R.frames; omega, by show 8 + (_ + 11) + 32 * d' ≤ R.locals; omega⟩) ⟨mi_blind hnw, fun U hU' hW => ⟨rfl, hU.go hS hnw hU' hW, by rw [hU']; exact hR⟩⟩ rfl (by rw [List.length_map]; exact hn) hl.1 rfl (lv_room (by rw [mi_sum]; exact hst)) (ht pc _ (mi_at_mem hi)) ⟨by omega, by omega⟩) hS (fun r h1 H1 locs1 hQ hR1 hS1 => ?_) (fun ce a h1 H1 locs1 hcX hqx hR1 hS1 => wx ce a h1 hcX hqx p l e R s m args below meth c H1 locs1 (cells + mc') (slots + ms') Z D dA b0 xa ls _ F0' hS1 (by omega) (by omega) hR1 hl hZ)
  have hw := w r h1 hQ p l e R s m args below meth c H1 locs1 (cells + mc') (slots + ms') Z D dA b0 xa ls F0' hS1 (by omega) (by omega) hR1 hl hZ
  rw [List.map_append] at hw
  cases r <;> exact hw
/-- a field that the pool names by a class below the one that has it -/
def mi_fs (P : mi_P) (own : String) (index ci j : Nat) : Prop := ∃ (C R2 : String) (T : u_T) (N : Nat) (ty0 : Nat → FieldType), mi_cf P ci C T N ty0 ∧ j < N ∧ Cond.fieldLink own index R2 (T j).2.1 (T j).2.2.1 ∈ P.2.1 ∧ Cond.sameField R2 (T j).1 (T j).2.1 (T j).2.2.1 ∈ P.2.1
set_option maxHeartbeats 4000000 in
theorem mi_getS (ht : mi_tb (P.2.2.2.1 k).2.1 tb) {index ci j a : Nat} {fs : List Value} {v : Value} (hi : mi_at tb pc = some (.getfield index)) (fd : mi_fs P (P.2.2.2.1 k).1.cls index ci j) (hE : P.2.2.2.2.2.1 ≤ a) (ha : a < h.1) (hc : h.2 a = .inr (ci, fs)) (hv : fs[j]? = some v)
    (w : mi_WX QX P X k d mc ms (pc + 3) lv (v :: st) h Q) : mi_WX QX P X k d mc ms pc lv (.ref a :: st) h Q := by
  intro p l e R s m args below meth c H locs cells slots Z D dA b0 xa ls F hS hmc hms hR hl hZ
  obtain ⟨C, R2, T, N, ty0, ⟨c1, c2, c3, c4⟩, f1, f4, f5⟩ := fd
  have hw := w p l e R s m args below meth c H locs cells slots Z D dA b0 xa ls F hS hmc hms hR hl hZ
  obtain ⟨hx, hb, hml, hown, hts, hnm, -, -, -, -, hz0, hK, -, -, hN⟩ := F
  have hd := ht pc _ (mi_at_mem hi)
  have he := mi_w_at (dA := dA) (E := P.2.2.2.2.2.1) (b0 := b0) (xa := xa) (h := h) hE ha
  rw [hc] at he
  have hv' : (fs.map (mi_V (mi_ad P.2.2.2.2.2.1 b0 xa)))[j]? = some (mi_V (mi_ad P.2.2.2.2.2.1 b0 xa) v) := by rw [List.getElem?_map, hv]; rfl
  exact va_get hx hb hts c2 hown hK hR.2.2 (a - P.2.2.2.2.2.1) he c1 j f1 (hts _ f4) (fun x9 h9 => u_same (hts _ f5) x9 h9) hv' hd hw
set_option maxHeartbeats 4000000 in
/-- a new row of rows -/
theorem mi_newA (ht : mi_tb (P.2.2.2.1 k).2.1 tb) {index t N : Nat} {n : Int32} {ty : FieldType} (hi : mi_at tb pc = some (.anewarray index)) (htt : P.2.2.2.2.1[t]? = some (.array ty)) (hcl : Cond.classLink (P.2.2.2.1 k).1.cls index (FieldType.array ty).toString ∈ P.2.1) (hov : Cond.arrayOver (.array ty) ∈ P.2.2.1) (hn : ¬ n < 0) (hN : n.toNatClampNeg = N) (hby : N * 4 ≤ 536870912)
    (w : mi_WX QX P X k d mc ms (pc + 3) lv (.ref h.1 :: st) (h.1 + 1, va_up h.2 h.1 (.inl (t, N, .inr (.inr (.inr (.inr (fun _ => none))))))) Q) : mi_WX QX P X k d (mc + 1) (ms + N) pc lv (.int n :: st) h Q := by
  intro p l e R s m args below meth c H locs cells slots Z D dA b0 xa ls F hS hmc hms hR hl hZ
  have F0' := F
  obtain ⟨hx, hb, hml, hown, hts, hnm, -, -, -, -, hz0, hK, -, -, hNw⟩ := F
  have ea := mi_psR (P := P) hR
  subst hN
  refine W.anewA hx hb hown (hts _ hcl) (show (Cond.arrayOver (.array ty)).before args s = true from hNw _ hov) rfl (ht pc _ (mi_at_mem hi)) rfl hn hby (by omega) (by omega) fun cA kA comp f1 f2 f3 f4 => ?_
  have hcA : cA = dA t := Option.some.inj (f1.symm.trans (hK.2 t _ (mi_tys_at htt)).2)
  subst hcA
  generalize hH1 : H.push ({ cls := dA t, slots := Array.replicate n.toNatClampNeg .null, vm := .none } : Cell) = H1
  have z1 : H1.size = H.size + 1 := by rw [← hH1, Array.size_push]
  have e1 : H1[H.size]? = some (arrV (dA t) n.toNatClampNeg (fun _ => .null)) := by rw [← hH1, Array.getElem?_push_size, ← arrV_new]
  have o1 : ∀ q : Nat, q < H.size → H1[q]? = H[q]? := fun q hq => by rw [← hH1, Array.getElem?_push, if_neg (Nat.ne_of_lt hq)]
  have hw := w p l e R s m args below meth c H1 locs (cells + 1) (slots + n.toNatClampNeg) Z D dA b0 xa ls F0' (mi_S_push hS z1 o1) (by omega) (by omega) (hR.push (.inl (t, n.toNatClampNeg, .inr (.inr (.inr (.inr (fun _ => none)))))) e1 z1 o1) hl hZ
  rw [List.map_cons, show mi_V (mi_ad P.2.2.2.2.2.1 b0 xa) (.ref h.1) = .ref H.size from congrArg Value.ref ea] at hw
  exact hw
/-- the words of a call through an interface: x is what the pool names, k' the method that is meant -/
def mi_cF (P : mi_P) (own : String) (idx k' n : Nat) (x : MethodName) : Prop := (Cond.code (P.2.2.2.1 k').1 (P.2.2.2.1 k').2.1 (P.2.2.2.1 k').2.2.1 (P.2.2.2.1 k').2.2.2 ∈ P.2.1 ∧ (P.2.2.2.1 k').2.2.1 ≤ 13) ∧ (∀ w ∈ ([.methodLink own idx x, .selects (P.2.2.2.1 k').1.cls x (P.2.2.2.1 k').1, .instanceMethod (P.2.2.2.1 k').1, .initialized (P.2.2.2.1 k').1.cls] : List Cond), w ∈ P.2.1) ∧
  (x.cls ≠ "java/lang/invoke/MethodHandle" ∧ x.cls ≠ "java/lang/invoke/VarHandle" ∧ (parseMethodDescriptor x.desc).map (fun d => d.parameters.length) = some n) ∧ ∀ (b0 : Nat) (U : State) (H : Heap), P.2.2.2.2.2.2.2.2 b0 U H → va_Fw (P.2.2.2.1 k').1.cls x (P.2.2.2.1 k').1 U
set_option maxHeartbeats 4000000 in
theorem mi_callF (ht : mi_tb (P.2.2.2.1 k).2.1 tb) {index count k' d' mc' ms' b ci n : Nat} {x : MethodName} {As : List Value} {fs : List Value} {Q' : Option Value → mi_H → Prop} (hi : mi_at tb pc = some (.invokeinterface index count)) (hdc : decode (P.2.2.2.1 k).2.1 pc = .ok (.invokeinterface index count, 5)) (cw : mi_cF P (P.2.2.2.1 k).1.cls index k' n x) (hn : As.length = n) (hd : d' + 1 ≤ d) (hE : P.2.2.2.2.2.1 ≤ b) (hb' : b < h.1) (hc : h.2 b = .inr (ci, fs)) (hci : (P.1[ci]?).map (·.1) = some (P.2.2.2.1 k').1.cls) (hst : (st.map fun v => v.category).sum ≤ 8)
    (hS' : mi_S P X k' d' (.ref b :: As) h mc' ms' Q') (w : ∀ (r : Option Value) (h1 : mi_H), Q' r h1 → mi_WX QX P X k d mc ms (pc + 5) lv (r.toList ++ st) h1 Q) : mi_WX QX P X k d (mc + mc') (ms + ms') pc lv (As.reverse ++ .ref b :: st) h Q := by
  intro p l e R s m args below meth c H locs cells slots Z D dA b0 xa ls F hS hmc hms hR hl hZ
  have F0' := F
  obtain ⟨hx, hb, hml, hown, hts, hnm, hg, hnw, hf1, hf2, hU⟩ := F
  obtain ⟨⟨w1, w3⟩, w2, w4, w5⟩ := cw
  have he := mi_w_at (dA := dA) (E := P.2.2.2.2.2.1) (b0 := b0) (xa := xa) (h := h) hE hb'
  rw [hc] at he
  obtain ⟨q, hq1, hq2⟩ := Option.map_eq_some_iff.mp hci
  have hrec := va_recv hU.2.1 hR.2.2 hq1 he
  rw [hq2] at hrec
  have hat : ClassAt s (P.2.2.2.1 k').1.cls (D.1 ci) := by rw [← hq2]; exact (hU.2.1.1 ci q hq1).2
  have hws : ∀ w ∈ va_wsF (P.2.2.2.1 k).1.cls index (P.2.2.2.1 k').1.cls x (P.2.2.2.1 k').1 (.code (P.2.2.2.1 k').1 (P.2.2.2.1 k').2.1 (P.2.2.2.1 k').2.2.1 (P.2.2.2.1 k').2.2.2 :: P.2.1), w ∈ P.2.1 := by
    intro w hw
    rcases List.mem_append.mp hw with h1 | h1
    · exact w2 w h1
    · rcases List.mem_cons.mp h1 with rfl | h1
      · exact w1
      · exact h1
  have e0 : (As.reverse ++ .ref b :: st).map (mi_V (mi_ad P.2.2.2.2.2.1 b0 xa)) = (As.map (mi_V (mi_ad P.2.2.2.2.2.1 b0 xa))).reverse ++ .ref (mi_ad P.2.2.2.2.2.1 b0 xa b) :: st.map (mi_V (mi_ad P.2.2.2.2.2.1 b0 xa)) := by
    rw [List.map_append, List.map_reverse]; rfl
  rw [e0]
  have hr := va_runF (e := e) (meth := meth) (below := below) (H := H) (locs := locs) (cells := cells) (slots := slots) (mc := mc') (ms := ms') (count := count) (rest := st.map (mi_V (mi_ad P.2.2.2.2.2.1 b0 xa))) (g := F0 m pc ls ((As.map (mi_V (mi_ad P.2.2.2.2.2.1 b0 xa))).reverse ++ .ref (mi_ad P.2.2.2.2.2.1 b0 xa b) :: st.map (mi_V (mi_ad P.2.2.2.2.2.1 b0 xa)))) hat ⟨hx, hb, hml, hown, hts⟩ (hS' l F0'.2.2.2.2.2.1.2.2 D dA b0 xa) (va_cwF n hts (mi_good hg hws) rfl rfl rfl (w5 _ _ _ hU.2.2.2.1.2) w4 ⟨by show d' + 1 ≤ R.frames; omega, by show 8 + (_ + 11) + 32 * d' ≤ R.locals; omega⟩) ⟨mi_blind hnw, hrec, fun U hU' hW => ⟨rfl, hU.go hS hnw hU' hW, by rw [hU']; exact hR⟩⟩ rfl (by rw [List.length_map]; exact hn) hl.1 rfl (lv_room (by rw [mi_sum]; exact hst)) (by show decode (P.2.2.2.1 k).2.1 pc = _; exact hdc) ⟨by omega, by omega⟩
  intro T hT Xs
  obtain ⟨v, st₀, t, T', L, h0, X', hL, e1, e2, ⟨⟨r, h1, hv, hq, hR1⟩, hz, hk⟩, st9⟩ := hr T hT Xs
  cases hv
  rw [h0] at hz hk
  have hS1 : va_S (fun q => b0 ≤ q) s.heap T'.heap (locs ++ L) := ⟨Nat.le_trans hS.1 (by rw [e1]; exact hz), fun q h1 h2 => by rw [e1, hk q (Nat.lt_of_lt_of_le h1 hS.1) h2]; exact hS.2.1 q h1 h2, fun q hq => by
      rcases List.mem_append.mp hq with h | h
      · exact hS.2.2 q h
      · exact hL q h⟩
  have hw := w r h1 hq p l e R s m args below meth c T'.heap (locs ++ L) (cells + mc') (slots + ms') Z D dA b0 xa ls F0' hS1 (by omega) (by omega) (by rw [e1]; exact hR1) hl hZ
  rw [List.map_append] at hw
  obtain ⟨t2, a1, b1⟩ := hw T' rfl X'
  exact ⟨t2, st9 t2 (by cases r <;> exact a1), b1⟩
/-- the words of a call of a method with a table of its own -/
def mi_cH (P : mi_P) (own : String) (idx k' n : Nat) : Prop := (Cond.codeWith (P.2.2.2.1 k').1 (P.2.2.2.1 k').2.1 (P.2.2.2.1 k').2.2.1 (P.2.2.2.1 k').2.2.2 (P.2.2.2.2.2.2.2.1 k') ∈ P.2.1 ∧ Cond.initialized (P.2.2.2.1 k').1.cls ∈ P.2.1 ∧ (P.2.2.2.1 k').2.2.1 ≤ 13) ∧
  ((P.2.2.2.1 k').1.cls ≠ "java/lang/invoke/MethodHandle" ∧ (P.2.2.2.1 k').1.cls ≠ "java/lang/invoke/VarHandle" ∧ (parseMethodDescriptor (P.2.2.2.1 k').1.desc).map (fun d => d.parameters.length) = some n) ∧ Cond.methodLink own idx (P.2.2.2.1 k').1 ∈ P.2.1 ∧ Cond.static (P.2.2.2.1 k').1 ∈ P.2.1
set_option maxHeartbeats 4000000 in
theorem mi_callSH (ht : mi_tb (P.2.2.2.1 k).2.1 tb) {index k' d' mc' ms' n : Nat} {As : List Value} {Q' : Option Value → mi_H → Prop} (hi : mi_at tb pc = some (.invokestatic index)) (cw : mi_cH P (P.2.2.2.1 k).1.cls index k' n) (hn : As.length = n) (hd : d' + 1 ≤ d) (hst : (st.map fun v => v.category).sum ≤ 8)
    (hS' : mi_SH P X k' d' As h mc' ms' Q') (w : ∀ (r : Option Value) (h1 : mi_H), Q' r h1 → mi_WX QX P X k d mc ms (pc + 3) lv (r.toList ++ st) h1 Q) : mi_WX QX P X k d (mc + mc') (ms + ms') pc lv (As.reverse ++ st) h Q := by
  intro p l e R s m args below meth c H locs cells slots Z D dA b0 xa ls F hS hmc hms hR hl hZ
  have F0' := F
  obtain ⟨hx, hb, hml, hown, hts, hnm, hg, hnw, hf1, hf2, hU⟩ := F
  obtain ⟨⟨w1, w2, w3⟩, w4, w5, w6⟩ := cw
  have hws : ∀ w ∈ va_wsS (P.2.2.2.1 k).1.cls index (P.2.2.2.1 k').1 (.codeWith (P.2.2.2.1 k').1 (P.2.2.2.1 k').2.1 (P.2.2.2.1 k').2.2.1 (P.2.2.2.1 k').2.2.2 (P.2.2.2.2.2.2.2.1 k') :: P.2.1), w ∈ P.2.1 := by
    intro w hw
    rcases List.mem_append.mp hw with h1 | h1
    · simp only [List.mem_cons, List.not_mem_nil, or_false] at h1
      rcases h1 with rfl | rfl | rfl <;> assumption
    · rcases List.mem_cons.mp h1 with rfl | h1
      · exact w1
      · exact h1
  have e0 : (As.reverse ++ st).map (mi_V (mi_ad P.2.2.2.2.2.1 b0 xa)) = (As.map (mi_V (mi_ad P.2.2.2.2.2.1 b0 xa))).reverse ++ st.map (mi_V (mi_ad P.2.2.2.2.2.1 b0 xa)) := by
    rw [List.map_append, List.map_reverse]
  rw [e0]
  refine mi_back hU.1 (vx_runSW ⟨hx, hb, hml, hown, hts⟩ (hS' l F0'.2.2.2.2.2.1.2.2 D dA b0 xa) (vx_cwSW n hts (mi_good hg hws) rfl rfl rfl w4 ⟨by show d' + 1 ≤ R.frames; omega, by show 8 + (_ + 11) + 32 * d' ≤ R.locals; omega⟩) ⟨mi_blind hnw, fun U hU' hW => ⟨rfl, hU.go hS hnw hU' hW, by rw [hU']; exact hR⟩⟩ rfl (by rw [List.length_map]; exact hn) hl.1 rfl (lv_room (by rw [mi_sum]; exact hst)) (ht pc _ (mi_at_mem hi)) ⟨by omega, by omega⟩) hS (fun r h1 H1 locs1 hQ hR1 hS1 => ?_)
  have hw := w r h1 hQ p l e R s m args below meth c H1 locs1 (cells + mc') (slots + ms') Z D dA b0 xa ls F0' hS1 (by omega) (by omega) hR1 hl hZ
  rw [List.map_append] at hw
  cases r <;> exact hw
end MICX
end
section
-- ===== PART A: goes FIRST, ahead of the names: the tables' words, and 'selects' of the private methods out of them =====
/-- a private method of a class that the tables say can be made, by its rows of tables_1 -/
def lw_okq (q : MethodName × Nat) : Prop := (q.1.cls ≠ "java/lang/invoke/MethodHandle" ∧ q.1.cls ≠ "java/lang/invoke/VarHandle") ∧ Cond.instantiable q.1.cls q.2 ∈ tables_1 ∧ Cond.privateMethod q.1 ∈ tables_1 ∧ Cond.instanceMethod q.1 ∈ tables_1
theorem lw_p0 : lw_okq (⟨"PitHouse", "writtenOf", "(I)I"⟩, 10) := ⟨⟨by decide +kernel, by decide +kernel⟩, List.mem_of_getElem? (i := 29) (by decide +kernel), List.mem_of_getElem? (i := 270) (by decide +kernel), List.mem_of_getElem? (i := 271) (by decide +kernel)⟩
theorem lw_p1 : lw_okq (⟨"java/lang/Throwable", "fillInStackTrace", "(I)Ljava/lang/Throwable;"⟩, 6) := ⟨⟨by decide +kernel, by decide +kernel⟩, List.mem_of_getElem? (i := 312) (by decide +kernel), List.mem_of_getElem? (i := 310) (by decide +kernel), List.mem_of_getElem? (i := 311) (by decide +kernel)⟩
theorem lw_p2 : lw_okq (⟨"PitHouse", "digestTracks", "(J)J"⟩, 10) := ⟨⟨by decide +kernel, by decide +kernel⟩, List.mem_of_getElem? (i := 29) (by decide +kernel), List.mem_of_getElem? (i := 342) (by decide +kernel), List.mem_of_getElem? (i := 343) (by decide +kernel)⟩
theorem lw_p3 : lw_okq (⟨"PitHouse", "trackAt", "(I)LPitHouse$Track;"⟩, 10) := ⟨⟨by decide +kernel, by decide +kernel⟩, List.mem_of_getElem? (i := 29) (by decide +kernel), List.mem_of_getElem? (i := 350) (by decide +kernel), List.mem_of_getElem? (i := 351) (by decide +kernel)⟩
theorem lw_p4 : lw_okq (⟨"PitHouse", "goodFrom", "(II)I"⟩, 10) := ⟨⟨by decide +kernel, by decide +kernel⟩, List.mem_of_getElem? (i := 29) (by decide +kernel), List.mem_of_getElem? (i := 370) (by decide +kernel), List.mem_of_getElem? (i := 371) (by decide +kernel)⟩
theorem lw_p5 : lw_okq (⟨"PitHouse", "isGood", "(I)Z"⟩, 10) := ⟨⟨by decide +kernel, by decide +kernel⟩, List.mem_of_getElem? (i := 29) (by decide +kernel), List.mem_of_getElem? (i := 374) (by decide +kernel), List.mem_of_getElem? (i := 375) (by decide +kernel)⟩
theorem lw_p6 : lw_okq (⟨"PitHouse", "digestSectors", "(J)J"⟩, 10) := ⟨⟨by decide +kernel, by decide +kernel⟩, List.mem_of_getElem? (i := 29) (by decide +kernel), List.mem_of_getElem? (i := 382) (by decide +kernel), List.mem_of_getElem? (i := 383) (by decide +kernel)⟩
theorem lw_p7 : lw_okq (⟨"PitHouse", "trackOf", "(I)I"⟩, 10) := ⟨⟨by decide +kernel, by decide +kernel⟩, List.mem_of_getElem? (i := 29) (by decide +kernel), List.mem_of_getElem? (i := 394) (by decide +kernel), List.mem_of_getElem? (i := 395) (by decide +kernel)⟩
theorem lw_p8 : lw_okq (⟨"PitHouse$Sector", "mixed", "(J)J"⟩, 10) := ⟨⟨by decide +kernel, by decide +kernel⟩, List.mem_of_getElem? (i := 136) (by decide +kernel), List.mem_of_getElem? (i := 445) (by decide +kernel), List.mem_of_getElem? (i := 446) (by decide +kernel)⟩
theorem lw_p9 : lw_okq (⟨"PitHouse", "digestFiles", "(J)J"⟩, 10) := ⟨⟨by decide +kernel, by decide +kernel⟩, List.mem_of_getElem? (i := 29) (by decide +kernel), List.mem_of_getElem? (i := 449) (by decide +kernel), List.mem_of_getElem? (i := 450) (by decide +kernel)⟩
theorem lw_p10 : lw_okq (⟨"PitHouse", "left", "()I"⟩, 10) := ⟨⟨by decide +kernel, by decide +kernel⟩, List.mem_of_getElem? (i := 29) (by decide +kernel), List.mem_of_getElem? (i := 483) (by decide +kernel), List.mem_of_getElem? (i := 484) (by decide +kernel)⟩
theorem lw_p11 : lw_okq (⟨"PitHouse$Block", "parityOf", "(I)I"⟩, 2) := ⟨⟨by decide +kernel, by decide +kernel⟩, List.mem_of_getElem? (i := 90) (by decide +kernel), List.mem_of_getElem? (i := 557) (by decide +kernel), List.mem_of_getElem? (i := 558) (by decide +kernel)⟩
theorem lw_p12 : lw_okq (⟨"PitHouse$Sector", "reckon", "(LPitHouse$Bench;)V"⟩, 10) := ⟨⟨by decide +kernel, by decide +kernel⟩, List.mem_of_getElem? (i := 136) (by decide +kernel), List.mem_of_getElem? (i := 561) (by decide +kernel), List.mem_of_getElem? (i := 562) (by decide +kernel)⟩
theorem lw_p13 : lw_okq (⟨"PitHouse$Block", "fillErased", "()V"⟩, 2) := ⟨⟨by decide +kernel, by decide +kernel⟩, List.mem_of_getElem? (i := 90) (by decide +kernel), List.mem_of_getElem? (i := 573) (by decide +kernel), List.mem_of_getElem? (i := 574) (by decide +kernel)⟩
theorem lw_p14 : lw_okq (⟨"PitHouse$Block", "onlyOddOf", "(I)I"⟩, 2) := ⟨⟨by decide +kernel, by decide +kernel⟩, List.mem_of_getElem? (i := 90) (by decide +kernel), List.mem_of_getElem? (i := 584) (by decide +kernel), List.mem_of_getElem? (i := 585) (by decide +kernel)⟩
theorem lw_p15 : lw_okq (⟨"PitHouse$Sector", "judged", "(LPitHouse$Block;)I"⟩, 10) := ⟨⟨by decide +kernel, by decide +kernel⟩, List.mem_of_getElem? (i := 136) (by decide +kernel), List.mem_of_getElem? (i := 588) (by decide +kernel), List.mem_of_getElem? (i := 589) (by decide +kernel)⟩
def lw_privs_1 : List (MethodName × Nat) := [(⟨"PitHouse", "writtenOf", "(I)I"⟩, 10), (⟨"java/lang/Throwable", "fillInStackTrace", "(I)Ljava/lang/Throwable;"⟩, 6), (⟨"PitHouse", "digestTracks", "(J)J"⟩, 10), (⟨"PitHouse", "trackAt", "(I)LPitHouse$Track;"⟩, 10), (⟨"PitHouse", "goodFrom", "(II)I"⟩, 10), (⟨"PitHouse", "isGood", "(I)Z"⟩, 10), (⟨"PitHouse", "digestSectors", "(J)J"⟩, 10), (⟨"PitHouse", "trackOf", "(I)I"⟩, 10), (⟨"PitHouse$Sector", "mixed", "(J)J"⟩, 10), (⟨"PitHouse", "digestFiles", "(J)J"⟩, 10), (⟨"PitHouse", "left", "()I"⟩, 10), (⟨"PitHouse$Block", "parityOf", "(I)I"⟩, 2), (⟨"PitHouse$Sector", "reckon", "(LPitHouse$Bench;)V"⟩, 10), (⟨"PitHouse$Block", "fillErased", "()V"⟩, 2), (⟨"PitHouse$Block", "onlyOddOf", "(I)I"⟩, 2), (⟨"PitHouse$Sector", "judged", "(LPitHouse$Block;)I"⟩, 10)]
theorem lw_r1 : ∀ q ∈ lw_privs_1, lw_okq q := List.forall_mem_cons.mpr ⟨lw_p0, List.forall_mem_cons.mpr ⟨lw_p1, List.forall_mem_cons.mpr ⟨lw_p2, List.forall_mem_cons.mpr ⟨lw_p3, List.forall_mem_cons.mpr ⟨lw_p4, List.forall_mem_cons.mpr ⟨lw_p5, List.forall_mem_cons.mpr ⟨lw_p6, List.forall_mem_cons.mpr ⟨lw_p7, List.forall_mem_cons.mpr ⟨lw_p8, List.forall_mem_cons.mpr ⟨lw_p9, List.forall_mem_cons.mpr ⟨lw_p10, List.forall_mem_cons.mpr ⟨lw_p11, List.forall_mem_cons.mpr ⟨lw_p12, List.forall_mem_cons.mpr ⟨lw_p13, List.forall_mem_cons.mpr ⟨lw_p14, List.forall_mem_cons.mpr ⟨lw_p15, fun _ h => absurd h List.not_mem_nil⟩⟩⟩⟩⟩⟩⟩⟩⟩⟩⟩⟩⟩⟩⟩⟩
theorem lw_p16 : lw_okq (⟨"PitHouse$Marks", "isJoined", "(II)Z"⟩, 4) := ⟨⟨by decide +kernel, by decide +kernel⟩, List.mem_of_getElem? (i := 105) (by decide +kernel), List.mem_of_getElem? (i := 603) (by decide +kernel), List.mem_of_getElem? (i := 604) (by decide +kernel)⟩
theorem lw_p17 : lw_okq (⟨"PitHouse$Marks", "dsvBehind", "(I)I"⟩, 4) := ⟨⟨by decide +kernel, by decide +kernel⟩, List.mem_of_getElem? (i := 105) (by decide +kernel), List.mem_of_getElem? (i := 607) (by decide +kernel), List.mem_of_getElem? (i := 608) (by decide +kernel)⟩
theorem lw_p18 : lw_okq (⟨"PitHouse$Marks", "putBits", "(I)V"⟩, 4) := ⟨⟨by decide +kernel, by decide +kernel⟩, List.mem_of_getElem? (i := 105) (by decide +kernel), List.mem_of_getElem? (i := 614) (by decide +kernel), List.mem_of_getElem? (i := 615) (by decide +kernel)⟩
theorem lw_p19 : lw_okq (⟨"PitHouse", "hasOpenTrack", "()Z"⟩, 10) := ⟨⟨by decide +kernel, by decide +kernel⟩, List.mem_of_getElem? (i := 29) (by decide +kernel), List.mem_of_getElem? (i := 648) (by decide +kernel), List.mem_of_getElem? (i := 649) (by decide +kernel)⟩
theorem lw_p20 : lw_okq (⟨"PitHouse", "sampleBetween", "(LPitHouse$Track;II)F"⟩, 10) := ⟨⟨by decide +kernel, by decide +kernel⟩, List.mem_of_getElem? (i := 29) (by decide +kernel), List.mem_of_getElem? (i := 800) (by decide +kernel), List.mem_of_getElem? (i := 801) (by decide +kernel)⟩
theorem lw_p21 : lw_okq (⟨"PitHouseModel", "start", "(ZI)Z"⟩, 15) := ⟨⟨by decide +kernel, by decide +kernel⟩, List.mem_of_getElem? (i := 836) (by decide +kernel), List.mem_of_getElem? (i := 926) (by decide +kernel), List.mem_of_getElem? (i := 927) (by decide +kernel)⟩
theorem lw_p22 : lw_okq (⟨"PitHouseModel", "refuse", "(ZI)Z"⟩, 15) := ⟨⟨by decide +kernel, by decide +kernel⟩, List.mem_of_getElem? (i := 836) (by decide +kernel), List.mem_of_getElem? (i := 930) (by decide +kernel), List.mem_of_getElem? (i := 931) (by decide +kernel)⟩
theorem lw_p23 : lw_okq (⟨"java/util/ArrayList", "add", "(Ljava/lang/Object;[Ljava/lang/Object;I)V"⟩, 3) := ⟨⟨by decide +kernel, by decide +kernel⟩, List.mem_of_getElem? (i := 843) (by decide +kernel), List.mem_of_getElem? (i := 949) (by decide +kernel), List.mem_of_getElem? (i := 950) (by decide +kernel)⟩
theorem lw_p24 : lw_okq (⟨"java/util/ArrayList", "grow", "()[Ljava/lang/Object;"⟩, 3) := ⟨⟨by decide +kernel, by decide +kernel⟩, List.mem_of_getElem? (i := 843) (by decide +kernel), List.mem_of_getElem? (i := 953) (by decide +kernel), List.mem_of_getElem? (i := 954) (by decide +kernel)⟩
theorem lw_p25 : lw_okq (⟨"java/util/ArrayList", "grow", "(I)[Ljava/lang/Object;"⟩, 3) := ⟨⟨by decide +kernel, by decide +kernel⟩, List.mem_of_getElem? (i := 843) (by decide +kernel), List.mem_of_getElem? (i := 957) (by decide +kernel), List.mem_of_getElem? (i := 958) (by decide +kernel)⟩
theorem lw_p26 : lw_okq (⟨"PitHouseModel", "isNoTrack", "(I)Z"⟩, 15) := ⟨⟨by decide +kernel, by decide +kernel⟩, List.mem_of_getElem? (i := 836) (by decide +kernel), List.mem_of_getElem? (i := 1006) (by decide +kernel), List.mem_of_getElem? (i := 1007) (by decide +kernel)⟩
theorem lw_p27 : lw_okq (⟨"PitHouseModel", "isDone", "(I)Z"⟩, 15) := ⟨⟨by decide +kernel, by decide +kernel⟩, List.mem_of_getElem? (i := 836) (by decide +kernel), List.mem_of_getElem? (i := 1011) (by decide +kernel), List.mem_of_getElem? (i := 1012) (by decide +kernel)⟩
theorem lw_p28 : lw_okq (⟨"PitHouseModel", "isNoFile", "(I)Z"⟩, 15) := ⟨⟨by decide +kernel, by decide +kernel⟩, List.mem_of_getElem? (i := 836) (by decide +kernel), List.mem_of_getElem? (i := 1104) (by decide +kernel), List.mem_of_getElem? (i := 1105) (by decide +kernel)⟩
theorem lw_p29 : lw_okq (⟨"PitHouseModel", "worth", "(I)I"⟩, 15) := ⟨⟨by decide +kernel, by decide +kernel⟩, List.mem_of_getElem? (i := 836) (by decide +kernel), List.mem_of_getElem? (i := 1155) (by decide +kernel), List.mem_of_getElem? (i := 1156) (by decide +kernel)⟩
theorem lw_p30 : lw_okq (⟨"PitHouseModel", "worth", "(I[I)I"⟩, 15) := ⟨⟨by decide +kernel, by decide +kernel⟩, List.mem_of_getElem? (i := 836) (by decide +kernel), List.mem_of_getElem? (i := 1159) (by decide +kernel), List.mem_of_getElem? (i := 1160) (by decide +kernel)⟩
theorem lw_p31 : lw_okq (⟨"PitHouseModel", "toldOfSector", "(II)I"⟩, 15) := ⟨⟨by decide +kernel, by decide +kernel⟩, List.mem_of_getElem? (i := 836) (by decide +kernel), List.mem_of_getElem? (i := 1197) (by decide +kernel), List.mem_of_getElem? (i := 1198) (by decide +kernel)⟩
def lw_privs_2 : List (MethodName × Nat) := [(⟨"PitHouse$Marks", "isJoined", "(II)Z"⟩, 4), (⟨"PitHouse$Marks", "dsvBehind", "(I)I"⟩, 4), (⟨"PitHouse$Marks", "putBits", "(I)V"⟩, 4), (⟨"PitHouse", "hasOpenTrack", "()Z"⟩, 10), (⟨"PitHouse", "sampleBetween", "(LPitHouse$Track;II)F"⟩, 10), (⟨"PitHouseModel", "start", "(ZI)Z"⟩, 15), (⟨"PitHouseModel", "refuse", "(ZI)Z"⟩, 15), (⟨"java/util/ArrayList", "add", "(Ljava/lang/Object;[Ljava/lang/Object;I)V"⟩, 3), (⟨"java/util/ArrayList", "grow", "()[Ljava/lang/Object;"⟩, 3), (⟨"java/util/ArrayList", "grow", "(I)[Ljava/lang/Object;"⟩, 3), (⟨"PitHouseModel", "isNoTrack", "(I)Z"⟩, 15), (⟨"PitHouseModel", "isDone", "(I)Z"⟩, 15), (⟨"PitHouseModel", "isNoFile", "(I)Z"⟩, 15), (⟨"PitHouseModel", "worth", "(I)I"⟩, 15), (⟨"PitHouseModel", "worth", "(I[I)I"⟩, 15), (⟨"PitHouseModel", "toldOfSector", "(II)I"⟩, 15)]
theorem lw_r2 : ∀ q ∈ lw_privs_2, lw_okq q := List.forall_mem_cons.mpr ⟨lw_p16, List.forall_mem_cons.mpr ⟨lw_p17, List.forall_mem_cons.mpr ⟨lw_p18, List.forall_mem_cons.mpr ⟨lw_p19, List.forall_mem_cons.mpr ⟨lw_p20, List.forall_mem_cons.mpr ⟨lw_p21, List.forall_mem_cons.mpr ⟨lw_p22, List.forall_mem_cons.mpr ⟨lw_p23, List.forall_mem_cons.mpr ⟨lw_p24, List.forall_mem_cons.mpr ⟨lw_p25, List.forall_mem_cons.mpr ⟨lw_p26, List.forall_mem_cons.mpr ⟨lw_p27, List.forall_mem_cons.mpr ⟨lw_p28, List.forall_mem_cons.mpr ⟨lw_p29, List.forall_mem_cons.mpr ⟨lw_p30, List.forall_mem_cons.mpr ⟨lw_p31, fun _ h => absurd h List.not_mem_nil⟩⟩⟩⟩⟩⟩⟩⟩⟩⟩⟩⟩⟩⟩⟩⟩
theorem lw_p32 : lw_okq (⟨"PitHouseModel", "nibblesAt", "(IZ)J"⟩, 15) := ⟨⟨by decide +kernel, by decide +kernel⟩, List.mem_of_getElem? (i := 836) (by decide +kernel), List.mem_of_getElem? (i := 1219) (by decide +kernel), List.mem_of_getElem? (i := 1220) (by decide +kernel)⟩
theorem lw_p33 : lw_okq (⟨"PitHouseModel", "toldOfTrack", "(II)I"⟩, 15) := ⟨⟨by decide +kernel, by decide +kernel⟩, List.mem_of_getElem? (i := 836) (by decide +kernel), List.mem_of_getElem? (i := 1232) (by decide +kernel), List.mem_of_getElem? (i := 1233) (by decide +kernel)⟩
theorem lw_p34 : lw_okq (⟨"PitHouseModel", "isGood", "(I)Z"⟩, 15) := ⟨⟨by decide +kernel, by decide +kernel⟩, List.mem_of_getElem? (i := 836) (by decide +kernel), List.mem_of_getElem? (i := 1236) (by decide +kernel), List.mem_of_getElem? (i := 1237) (by decide +kernel)⟩
theorem lw_p35 : lw_okq (⟨"PitHouseModel", "toldOfFile", "(III)I"⟩, 15) := ⟨⟨by decide +kernel, by decide +kernel⟩, List.mem_of_getElem? (i := 836) (by decide +kernel), List.mem_of_getElem? (i := 1244) (by decide +kernel), List.mem_of_getElem? (i := 1245) (by decide +kernel)⟩
theorem lw_p36 : lw_okq (⟨"PitHouseModel", "sample", "(I)F"⟩, 15) := ⟨⟨by decide +kernel, by decide +kernel⟩, List.mem_of_getElem? (i := 836) (by decide +kernel), List.mem_of_getElem? (i := 1252) (by decide +kernel), List.mem_of_getElem? (i := 1253) (by decide +kernel)⟩
theorem lw_p37 : lw_okq (⟨"PitHouseModel", "isHeard", "(II)Z"⟩, 15) := ⟨⟨by decide +kernel, by decide +kernel⟩, List.mem_of_getElem? (i := 836) (by decide +kernel), List.mem_of_getElem? (i := 1256) (by decide +kernel), List.mem_of_getElem? (i := 1257) (by decide +kernel)⟩
theorem lw_p38 : lw_okq (⟨"PitHouseModel", "told", "(I)I"⟩, 15) := ⟨⟨by decide +kernel, by decide +kernel⟩, List.mem_of_getElem? (i := 836) (by decide +kernel), List.mem_of_getElem? (i := 1266) (by decide +kernel), List.mem_of_getElem? (i := 1267) (by decide +kernel)⟩
def lw_privs_3 : List (MethodName × Nat) := [(⟨"PitHouseModel", "nibblesAt", "(IZ)J"⟩, 15), (⟨"PitHouseModel", "toldOfTrack", "(II)I"⟩, 15), (⟨"PitHouseModel", "isGood", "(I)Z"⟩, 15), (⟨"PitHouseModel", "toldOfFile", "(III)I"⟩, 15), (⟨"PitHouseModel", "sample", "(I)F"⟩, 15), (⟨"PitHouseModel", "isHeard", "(II)Z"⟩, 15), (⟨"PitHouseModel", "told", "(I)I"⟩, 15)]
theorem lw_r3 : ∀ q ∈ lw_privs_3, lw_okq q := List.forall_mem_cons.mpr ⟨lw_p32, List.forall_mem_cons.mpr ⟨lw_p33, List.forall_mem_cons.mpr ⟨lw_p34, List.forall_mem_cons.mpr ⟨lw_p35, List.forall_mem_cons.mpr ⟨lw_p36, List.forall_mem_cons.mpr ⟨lw_p37, List.forall_mem_cons.mpr ⟨lw_p38, fun _ h => absurd h List.not_mem_nil⟩⟩⟩⟩⟩⟩⟩
def lw_privs : List (MethodName × Nat) := lw_privs_1 ++ (lw_privs_2 ++ (lw_privs_3))
def lw_tbl : List Cond := k2_sels lw_privs ++ tables_1
theorem lw_privs_ok : ∀ q ∈ lw_privs, lw_okq q := by
  show ∀ q ∈ lw_privs_1 ++ (lw_privs_2 ++ (lw_privs_3)), lw_okq q
  exact List.forall_mem_append.mpr ⟨lw_r1, List.forall_mem_append.mpr ⟨lw_r2, lw_r3⟩⟩
/-- the streams that the claim lets the run draw from -/
abbrev lw_cs : List Choice := [Jvm.Choice.named "NaN.bits"]
theorem lw_bits : nanBits ∈ lw_cs := by first | decide | exact List.mem_cons_self | simp [lw_cs, nanBits]

def RX0 : String := "PitHouse$Bench"
def TX0 : u_T := fun k => match k with
  | 0 => ("PitHouse$Bench", "copy", "LPitHouse$Block;", true)
  | _ => ("PitHouse$Bench", "marks", "LPitHouse$Marks;", true)
def tyX0 : Nat → FieldType := fun k => match k with
  | 0 => .object "PitHouse$Block"
  | _ => .object "PitHouse$Marks"
abbrev wsX00 : List Cond := u_ws RX0 TX0 2
theorem nmX0 : ∀ a, a < 2 → ∀ b, b < 2 → a ≠ b → (TX0 a).2.1 ≠ (TX0 b).2.1 := by decide +kernel
theorem tyX0_ok : ∀ k, k < 2 → parseFieldDescriptor (TX0 k).2.2.1 = some (tyX0 k) := by decide +kernel
abbrev cX0_init : ByteArray := prog_2_method_1_code
def yX0_init : MethodName := ⟨RX0, "<init>", "()V"⟩
def RX1 : String := "PitHouse$Block"
def TX1 : u_T := fun k => match k with
  | 0 => ("PitHouse$Block", "values", "J", false)
  | _ => ("PitHouse$Block", "erased", "I", false)
def tyX1 : Nat → FieldType := fun k => match k with
  | 0 => .long
  | _ => .int
abbrev wsX10 : List Cond := u_ws RX1 TX1 2
theorem nmX1 : ∀ a, a < 2 → ∀ b, b < 2 → a ≠ b → (TX1 a).2.1 ≠ (TX1 b).2.1 := by decide +kernel
theorem tyX1_ok : ∀ k, k < 2 → parseFieldDescriptor (TX1 k).2.2.1 = some (tyX1 k) := by decide +kernel
abbrev cX1_init : ByteArray := prog_3_method_1_code
def yX1_init : MethodName := ⟨RX1, "<init>", "()V"⟩
abbrev cX1_valueAt : ByteArray := prog_3_method_2_code
def yX1_valueAt : MethodName := ⟨RX1, "valueAt", "(I)I"⟩
abbrev cX1_isErased : ByteArray := prog_3_method_3_code
def yX1_isErased : MethodName := ⟨RX1, "isErased", "(I)Z"⟩
abbrev cX1_put : ByteArray := prog_3_method_4_code
def yX1_put : MethodName := ⟨RX1, "put", "(II)V"⟩
abbrev cX1_erase : ByteArray := prog_3_method_5_code
def yX1_erase : MethodName := ⟨RX1, "erase", "(I)V"⟩
abbrev cX1_copyFrom : ByteArray := prog_3_method_6_code
def yX1_copyFrom : MethodName := ⟨RX1, "copyFrom", "(LPitHouse$Block;)V"⟩
abbrev cX1_spread : ByteArray := prog_3_method_7_code
def yX1_spread : MethodName := ⟨RX1, "spread", "(J)V"⟩
abbrev cX1_gathered : ByteArray := prog_3_method_8_code
def yX1_gathered : MethodName := ⟨RX1, "gathered", "()J"⟩
abbrev cX1_mend : ByteArray := prog_3_method_9_code
def yX1_mend : MethodName := ⟨RX1, "mend", "()V"⟩
abbrev cX1_isEven : ByteArray := prog_3_method_10_code
def yX1_isEven : MethodName := ⟨RX1, "isEven", "()Z"⟩
abbrev cX1_fillErased : ByteArray := prog_3_method_11_code
def yX1_fillErased : MethodName := ⟨RX1, "fillErased", "()V"⟩
abbrev cX1_onlyOddOf : ByteArray := prog_3_method_12_code
def yX1_onlyOddOf : MethodName := ⟨RX1, "onlyOddOf", "(I)I"⟩
abbrev cX1_parityOf : ByteArray := prog_3_method_13_code
def yX1_parityOf : MethodName := ⟨RX1, "parityOf", "(I)I"⟩
abbrev cX1_placeOf : ByteArray := prog_3_method_14_code
def yX1_placeOf : MethodName := ⟨RX1, "placeOf", "(I)I"⟩
def RX2 : String := "PitHouse$Drive"
def TX2 : u_T := fun k => match k with
  | 0 => ("PitHouse$Drive", "head", "I", false)
  | 1 => ("PitHouse$Drive", "clock", "D", false)
  | 2 => ("PitHouse$Drive", "reads", "I", false)
  | 3 => ("PitHouse$Drive", "isTrayOpen", "Z", false)
  | _ => ("PitHouse$Drive", "refusals", "I", false)
def tyX2 : Nat → FieldType := fun k => match k with
  | 0 => .int
  | 1 => .double
  | 2 => .int
  | 3 => .boolean
  | _ => .int
abbrev wsX20 : List Cond := u_ws RX2 TX2 5
theorem nmX2 : ∀ a, a < 5 → ∀ b, b < 5 → a ≠ b → (TX2 a).2.1 ≠ (TX2 b).2.1 := by decide +kernel
theorem tyX2_ok : ∀ k, k < 5 → parseFieldDescriptor (TX2 k).2.2.1 = some (tyX2 k) := by decide +kernel
abbrev cX2_init : ByteArray := prog_4_method_1_code
def yX2_init : MethodName := ⟨RX2, "<init>", "()V"⟩
abbrev cX2_seekTime : ByteArray := prog_4_method_2_code
def yX2_seekTime : MethodName := ⟨RX2, "seekTime", "(II)D"⟩
abbrev cX2_restOfTurn : ByteArray := prog_4_method_3_code
def yX2_restOfTurn : MethodName := ⟨RX2, "restOfTurn", "(D)D"⟩
abbrev cX2_clockBehind : ByteArray := prog_4_method_4_code
def yX2_clockBehind : MethodName := ⟨RX2, "clockBehind", "(DII)D"⟩
abbrev cX2_headBehind : ByteArray := prog_4_method_5_code
def yX2_headBehind : MethodName := ⟨RX2, "headBehind", "(I)I"⟩
abbrev cX2_passOver : ByteArray := prog_4_method_6_code
def yX2_passOver : MethodName := ⟨RX2, "passOver", "(I)V"⟩
abbrev cX2_timeOver : ByteArray := prog_4_method_7_code
def yX2_timeOver : MethodName := ⟨RX2, "timeOver", "(II)D"⟩
def RX3 : String := "PitHouse$FileTable"
def TX3 : u_T := fun k => match k with
  | 0 => ("PitHouse$FileTable", "firsts", "[[I", true)
  | _ => ("PitHouse$FileTable", "lengths", "[[I", true)
def tyX3 : Nat → FieldType := fun k => match k with
  | 0 => .array (.array .int)
  | _ => .array (.array .int)
abbrev wsX30 : List Cond := u_ws RX3 TX3 2
theorem nmX3 : ∀ a, a < 2 → ∀ b, b < 2 → a ≠ b → (TX3 a).2.1 ≠ (TX3 b).2.1 := by decide +kernel
theorem tyX3_ok : ∀ k, k < 2 → parseFieldDescriptor (TX3 k).2.2.1 = some (tyX3 k) := by decide +kernel
abbrev cX3_init : ByteArray := prog_5_method_1_code
def yX3_init : MethodName := ⟨RX3, "<init>", "()V"⟩
abbrev cX3_tell : ByteArray := prog_5_method_2_code
def yX3_tell : MethodName := ⟨RX3, "tell", "(IIII)V"⟩
abbrev cX3_tellerOf : ByteArray := prog_5_method_3_code
def yX3_tellerOf : MethodName := ⟨RX3, "tellerOf", "(II)I"⟩
abbrev cX3_firstOf : ByteArray := prog_5_method_4_code
def yX3_firstOf : MethodName := ⟨RX3, "firstOf", "(II)I"⟩
abbrev cX3_lengthOf : ByteArray := prog_5_method_5_code
def yX3_lengthOf : MethodName := ⟨RX3, "lengthOf", "(II)I"⟩
def RX4 : String := "PitHouse$Marks"
def TX4 : u_T := fun k => match k with
  | 0 => ("PitHouse$Marks", "level", "I", false)
  | 1 => ("PitHouse$Marks", "dsv", "I", false)
  | 2 => ("PitHouse$Marks", "turns", "I", false)
  | _ => ("PitHouse$Marks", "farthest", "I", false)
def tyX4 : Nat → FieldType := fun k => match k with
  | 0 => .int
  | 1 => .int
  | 2 => .int
  | _ => .int
abbrev wsX40 : List Cond := u_ws RX4 TX4 4
theorem nmX4 : ∀ a, a < 4 → ∀ b, b < 4 → a ≠ b → (TX4 a).2.1 ≠ (TX4 b).2.1 := by decide +kernel
theorem tyX4_ok : ∀ k, k < 4 → parseFieldDescriptor (TX4 k).2.2.1 = some (tyX4 k) := by decide +kernel
abbrev cX4_init : ByteArray := prog_6_method_1_code
def yX4_init : MethodName := ⟨RX4, "<init>", "()V"⟩
abbrev cX4_mark : ByteArray := prog_6_method_2_code
def yX4_mark : MethodName := ⟨RX4, "mark", "(LPitHouse$Block;)V"⟩
abbrev cX4_isJoined : ByteArray := prog_6_method_3_code
def yX4_isJoined : MethodName := ⟨RX4, "isJoined", "(II)Z"⟩
abbrev cX4_dsvBehind : ByteArray := prog_6_method_4_code
def yX4_dsvBehind : MethodName := ⟨RX4, "dsvBehind", "(I)I"⟩
abbrev cX4_putBits : ByteArray := prog_6_method_5_code
def yX4_putBits : MethodName := ⟨RX4, "putBits", "(I)V"⟩
def RX5 : String := "PitHouse$Sector"
def TX5 : u_T := fun k => match k with
  | 0 => ("PitHouse$Sector", "number", "I", true)
  | 1 => ("PitHouse$Sector", "block", "LPitHouse$Block;", true)
  | 2 => ("PitHouse$Sector", "isWritten", "Z", false)
  | 3 => ("PitHouse$Sector", "isData", "Z", false)
  | 4 => ("PitHouse$Sector", "sum", "I", false)
  | 5 => ("PitHouse$Sector", "state", "I", false)
  | 6 => ("PitHouse$Sector", "mended", "J", false)
  | 7 => ("PitHouse$Sector", "turns", "I", false)
  | 8 => ("PitHouse$Sector", "dsv", "I", false)
  | _ => ("PitHouse$Sector", "farthest", "I", false)
def tyX5 : Nat → FieldType := fun k => match k with
  | 0 => .int
  | 1 => .object "PitHouse$Block"
  | 2 => .boolean
  | 3 => .boolean
  | 4 => .int
  | 5 => .int
  | 6 => .long
  | 7 => .int
  | 8 => .int
  | _ => .int
abbrev wsX50 : List Cond := u_ws RX5 TX5 10
theorem nmX5 : ∀ a, a < 10 → ∀ b, b < 10 → a ≠ b → (TX5 a).2.1 ≠ (TX5 b).2.1 := by decide +kernel
theorem tyX5_ok : ∀ k, k < 10 → parseFieldDescriptor (TX5 k).2.2.1 = some (tyX5 k) := by decide +kernel
abbrev cX5_init : ByteArray := prog_7_method_1_code
def yX5_init : MethodName := ⟨RX5, "<init>", "(I)V"⟩
abbrev cX5_fillWith : ByteArray := prog_7_method_2_code
def yX5_fillWith : MethodName := ⟨RX5, "fillWith", "(JZLPitHouse$Bench;)V"⟩
abbrev cX5_eraseColumn : ByteArray := prog_7_method_3_code
def yX5_eraseColumn : MethodName := ⟨RX5, "eraseColumn", "(IILPitHouse$Bench;)V"⟩
abbrev cX5_makeWrong : ByteArray := prog_7_method_4_code
def yX5_makeWrong : MethodName := ⟨RX5, "makeWrong", "(IILPitHouse$Bench;)Z"⟩
abbrev cX5_raw : ByteArray := prog_7_method_5_code
def yX5_raw : MethodName := ⟨RX5, "raw", "()J"⟩
abbrev cX5_sample : ByteArray := prog_7_method_6_code
def yX5_sample : MethodName := ⟨RX5, "sample", "()F"⟩
abbrev cX5_stateWithout : ByteArray := prog_7_method_7_code
def yX5_stateWithout : MethodName := ⟨RX5, "stateWithout", "(ILPitHouse$Block;)I"⟩
abbrev cX5_reckon : ByteArray := prog_7_method_8_code
def yX5_reckon : MethodName := ⟨RX5, "reckon", "(LPitHouse$Bench;)V"⟩
abbrev cX5_judged : ByteArray := prog_7_method_9_code
def yX5_judged : MethodName := ⟨RX5, "judged", "(LPitHouse$Block;)I"⟩
abbrev cX5_mixed : ByteArray := prog_7_method_10_code
def yX5_mixed : MethodName := ⟨RX5, "mixed", "(J)J"⟩
abbrev cX5_sumOf : ByteArray := prog_7_method_11_code
def yX5_sumOf : MethodName := ⟨RX5, "sumOf", "(J)I"⟩
abbrev cX5_nibbleOf : ByteArray := prog_7_method_12_code
def yX5_nibbleOf : MethodName := ⟨RX5, "nibbleOf", "(JI)I"⟩
def RX6 : String := "PitHouse$Spiral"
def TX6 : u_T := fun k => match k with
  | _ => ("", "", "", false)
def tyX6 : Nat → FieldType := fun k => match k with
  | _ => .int
abbrev wsX60 : List Cond := u_ws RX6 TX6 0
theorem nmX6 : ∀ a, a < 0 → ∀ b, b < 0 → a ≠ b → (TX6 a).2.1 ≠ (TX6 b).2.1 := by decide +kernel
theorem tyX6_ok : ∀ k, k < 0 → parseFieldDescriptor (TX6 k).2.2.1 = some (tyX6 k) := by decide +kernel
abbrev cX6_zoneOf : ByteArray := prog_8_method_2_code
def yX6_zoneOf : MethodName := ⟨RX6, "zoneOf", "(I)I"⟩
abbrev cX6_turnOf : ByteArray := prog_8_method_3_code
def yX6_turnOf : MethodName := ⟨RX6, "turnOf", "(I)I"⟩
abbrev cX6_angleOf : ByteArray := prog_8_method_4_code
def yX6_angleOf : MethodName := ⟨RX6, "angleOf", "(I)D"⟩
abbrev cX6_speedOf : ByteArray := prog_8_method_5_code
def yX6_speedOf : MethodName := ⟨RX6, "speedOf", "(I)F"⟩
abbrev cX6_positionOf : ByteArray := prog_8_method_6_code
def yX6_positionOf : MethodName := ⟨RX6, "positionOf", "(I)I"⟩
def RX7 : String := "PitHouse$Track"
def TX7 : u_T := fun k => match k with
  | 0 => ("PitHouse$Track", "session", "I", false)
  | 1 => ("PitHouse$Track", "mode", "I", false)
  | 2 => ("PitHouse$Track", "first", "I", false)
  | 3 => ("PitHouse$Track", "has", "I", false)
  | 4 => ("PitHouse$Track", "used", "I", false)
  | 5 => ("PitHouse$Track", "links", "I", false)
  | _ => ("PitHouse$Track", "isClosed", "Z", false)
def tyX7 : Nat → FieldType := fun k => match k with
  | 0 => .int
  | 1 => .int
  | 2 => .int
  | 3 => .int
  | 4 => .int
  | 5 => .int
  | _ => .boolean
abbrev wsX70 : List Cond := u_ws RX7 TX7 7
theorem nmX7 : ∀ a, a < 7 → ∀ b, b < 7 → a ≠ b → (TX7 a).2.1 ≠ (TX7 b).2.1 := by decide +kernel
theorem tyX7_ok : ∀ k, k < 7 → parseFieldDescriptor (TX7 k).2.2.1 = some (tyX7 k) := by decide +kernel
abbrev cX7_init : ByteArray := prog_9_method_1_code
def yX7_init : MethodName := ⟨RX7, "<init>", "()V"⟩
abbrev cX7_reserve : ByteArray := prog_9_method_2_code
def yX7_reserve : MethodName := ⟨RX7, "reserve", "(IIII)V"⟩
abbrev cX7_behind : ByteArray := prog_9_method_3_code
def yX7_behind : MethodName := ⟨RX7, "behind", "()I"⟩
abbrev cX7_holds : ByteArray := prog_9_method_4_code
def yX7_holds : MethodName := ⟨RX7, "holds", "(I)Z"⟩
abbrev cX7_hasRoom : ByteArray := prog_9_method_5_code
def yX7_hasRoom : MethodName := ⟨RX7, "hasRoom", "()Z"⟩
abbrev cX7_takeNext : ByteArray := prog_9_method_6_code
def yX7_takeNext : MethodName := ⟨RX7, "takeNext", "()I"⟩
abbrev cX7_giveBack : ByteArray := prog_9_method_7_code
def yX7_giveBack : MethodName := ⟨RX7, "giveBack", "()I"⟩
def RX8 : String := "PitHouse"
def TX8 : u_T := fun k => match k with
  | 0 => ("PitHouse", "sectors", "[LPitHouse$Sector;", true)
  | 1 => ("PitHouse", "tracks", "[LPitHouse$Track;", true)
  | 2 => ("PitHouse", "files", "LPitHouse$FileTable;", true)
  | 3 => ("PitHouse", "drive", "LPitHouse$Drive;", true)
  | 4 => ("PitHouse", "bench", "LPitHouse$Bench;", true)
  | 5 => ("PitHouse", "sessionCount", "I", false)
  | 6 => ("PitHouse", "trackCount", "I", false)
  | 7 => ("PitHouse", "next", "I", false)
  | 8 => ("PitHouse", "calibrations", "I", false)
  | _ => ("PitHouse", "isSessionOpen", "Z", false)
def tyX8 : Nat → FieldType := fun k => match k with
  | 0 => .array (.object "PitHouse$Sector")
  | 1 => .array (.object "PitHouse$Track")
  | 2 => .object "PitHouse$FileTable"
  | 3 => .object "PitHouse$Drive"
  | 4 => .object "PitHouse$Bench"
  | 5 => .int
  | 6 => .int
  | 7 => .int
  | 8 => .int
  | _ => .boolean
abbrev wsX80 : List Cond := u_ws RX8 TX8 10
theorem nmX8 : ∀ a, a < 10 → ∀ b, b < 10 → a ≠ b → (TX8 a).2.1 ≠ (TX8 b).2.1 := by decide +kernel
theorem tyX8_ok : ∀ k, k < 10 → parseFieldDescriptor (TX8 k).2.2.1 = some (tyX8 k) := by decide +kernel
abbrev cX8_init : ByteArray := prog_1_method_1_code
def yX8_init : MethodName := ⟨RX8, "<init>", "()V"⟩
abbrev cX8_session : ByteArray := prog_1_method_2_code
def yX8_session : MethodName := ⟨RX8, "session", "()I"⟩
abbrev cX8_track : ByteArray := prog_1_method_3_code
def yX8_track : MethodName := ⟨RX8, "track", "(II)I"⟩
abbrev cX8_write : ByteArray := prog_1_method_4_code
def yX8_write : MethodName := ⟨RX8, "write", "(IJ)I"⟩
abbrev cX8_starve : ByteArray := prog_1_method_5_code
def yX8_starve : MethodName := ⟨RX8, "starve", "(I)I"⟩
abbrev cX8_close : ByteArray := prog_1_method_6_code
def yX8_close : MethodName := ⟨RX8, "close", "(I)I"⟩
abbrev cX8_end : ByteArray := prog_1_method_7_code
def yX8_end : MethodName := ⟨RX8, "end", "()I"⟩
abbrev cX8_file : ByteArray := prog_1_method_8_code
def yX8_file : MethodName := ⟨RX8, "file", "(III)I"⟩
abbrev cX8_scratch : ByteArray := prog_1_method_9_code
def yX8_scratch : MethodName := ⟨RX8, "scratch", "(IIII)I"⟩
abbrev cX8_rot : ByteArray := prog_1_method_10_code
def yX8_rot : MethodName := ⟨RX8, "rot", "(I)I"⟩
abbrev cX8_tray : ByteArray := prog_1_method_11_code
def yX8_tray : MethodName := ⟨RX8, "tray", "(Z)Z"⟩
abbrev cX8_push : ByteArray := prog_1_method_12_code
def yX8_push : MethodName := ⟨RX8, "push", "()I"⟩
abbrev cX8_read : ByteArray := prog_1_method_13_code
def yX8_read : MethodName := ⟨RX8, "read", "(I)I"⟩
abbrev cX8_seek : ByteArray := prog_1_method_14_code
def yX8_seek : MethodName := ⟨RX8, "seek", "(I)D"⟩
abbrev cX8_clock : ByteArray := prog_1_method_15_code
def yX8_clock : MethodName := ⟨RX8, "clock", "()D"⟩
abbrev cX8_angle : ByteArray := prog_1_method_16_code
def yX8_angle : MethodName := ⟨RX8, "angle", "(I)D"⟩
abbrev cX8_ofSector : ByteArray := prog_1_method_17_code
def yX8_ofSector : MethodName := ⟨RX8, "ofSector", "(II)I"⟩
abbrev cX8_nibbles : ByteArray := prog_1_method_18_code
def yX8_nibbles : MethodName := ⟨RX8, "nibbles", "(IZ)J"⟩
abbrev cX8_place : ByteArray := prog_1_method_19_code
def yX8_place : MethodName := ⟨RX8, "place", "(II)I"⟩
abbrev cX8_ofTrack : ByteArray := prog_1_method_20_code
def yX8_ofTrack : MethodName := ⟨RX8, "ofTrack", "(II)I"⟩
abbrev cX8_ofFile : ByteArray := prog_1_method_21_code
def yX8_ofFile : MethodName := ⟨RX8, "ofFile", "(III)I"⟩
abbrev cX8_play : ByteArray := prog_1_method_22_code
def yX8_play : MethodName := ⟨RX8, "play", "(I)D"⟩
abbrev cX8_many : ByteArray := prog_1_method_23_code
def yX8_many : MethodName := ⟨RX8, "many", "(I)I"⟩
abbrev cX8_wouldTake : ByteArray := prog_1_method_24_code
def yX8_wouldTake : MethodName := ⟨RX8, "wouldTake", "(II)D"⟩
abbrev cX8_wouldMend : ByteArray := prog_1_method_25_code
def yX8_wouldMend : MethodName := ⟨RX8, "wouldMend", "(II)I"⟩
abbrev cX8_digest : ByteArray := prog_1_method_26_code
def yX8_digest : MethodName := ⟨RX8, "digest", "()J"⟩
abbrev cX8_digestTracks : ByteArray := prog_1_method_27_code
def yX8_digestTracks : MethodName := ⟨RX8, "digestTracks", "(J)J"⟩
abbrev cX8_digestSectors : ByteArray := prog_1_method_28_code
def yX8_digestSectors : MethodName := ⟨RX8, "digestSectors", "(J)J"⟩
abbrev cX8_digestFiles : ByteArray := prog_1_method_29_code
def yX8_digestFiles : MethodName := ⟨RX8, "digestFiles", "(J)J"⟩
abbrev cX8_isSector : ByteArray := prog_1_method_30_code
def yX8_isSector : MethodName := ⟨RX8, "isSector", "(I)Z"⟩
abbrev cX8_checkSector : ByteArray := prog_1_method_31_code
def yX8_checkSector : MethodName := ⟨RX8, "checkSector", "(I)V"⟩
abbrev cX8_checkFile : ByteArray := prog_1_method_32_code
def yX8_checkFile : MethodName := ⟨RX8, "checkFile", "(I)V"⟩
abbrev cX8_trackAt : ByteArray := prog_1_method_33_code
def yX8_trackAt : MethodName := ⟨RX8, "trackAt", "(I)LPitHouse$Track;"⟩
abbrev cX8_left : ByteArray := prog_1_method_34_code
def yX8_left : MethodName := ⟨RX8, "left", "()I"⟩
abbrev cX8_trackOf : ByteArray := prog_1_method_35_code
def yX8_trackOf : MethodName := ⟨RX8, "trackOf", "(I)I"⟩
abbrev cX8_hasOpenTrack : ByteArray := prog_1_method_36_code
def yX8_hasOpenTrack : MethodName := ⟨RX8, "hasOpenTrack", "()Z"⟩
abbrev cX8_isGood : ByteArray := prog_1_method_37_code
def yX8_isGood : MethodName := ⟨RX8, "isGood", "(I)Z"⟩
abbrev cX8_goodFrom : ByteArray := prog_1_method_38_code
def yX8_goodFrom : MethodName := ⟨RX8, "goodFrom", "(II)I"⟩
abbrev cX8_writtenOf : ByteArray := prog_1_method_39_code
def yX8_writtenOf : MethodName := ⟨RX8, "writtenOf", "(I)I"⟩
abbrev cX8_sampleBetween : ByteArray := prog_1_method_40_code
def yX8_sampleBetween : MethodName := ⟨RX8, "sampleBetween", "(LPitHouse$Track;II)F"⟩
def RX9 : String := "PitHouseModel"
def TX9 : u_T := fun k => match k with
  | 0 => ("PitHouseModel", "thrown", "I", false)
  | 1 => ("PitHouseModel", "blocks", "[[I", true)
  | 2 => ("PitHouseModel", "sums", "[I", true)
  | 3 => ("PitHouseModel", "tracks", "Ljava/util/ArrayList;", true)
  | 4 => ("PitHouseModel", "of", "[I", true)
  | 5 => ("PitHouseModel", "sessions", "I", false)
  | 6 => ("PitHouseModel", "isOpen", "Z", false)
  | 7 => ("PitHouseModel", "next", "I", false)
  | 8 => ("PitHouseModel", "calibrations", "I", false)
  | 9 => ("PitHouseModel", "files", "Ljava/util/ArrayList;", true)
  | 10 => ("PitHouseModel", "head", "I", false)
  | 11 => ("PitHouseModel", "clock", "D", false)
  | 12 => ("PitHouseModel", "reads", "I", false)
  | 13 => ("PitHouseModel", "isTray", "Z", false)
  | _ => ("PitHouseModel", "refused", "I", false)
def tyX9 : Nat → FieldType := fun k => match k with
  | 0 => .int
  | 1 => .array (.array .int)
  | 2 => .array .int
  | 3 => .object "java/util/ArrayList"
  | 4 => .array .int
  | 5 => .int
  | 6 => .boolean
  | 7 => .int
  | 8 => .int
  | 9 => .object "java/util/ArrayList"
  | 10 => .int
  | 11 => .double
  | 12 => .int
  | 13 => .boolean
  | _ => .int
abbrev wsX90 : List Cond := u_ws RX9 TX9 15
theorem nmX9 : ∀ a, a < 15 → ∀ b, b < 15 → a ≠ b → (TX9 a).2.1 ≠ (TX9 b).2.1 := by decide +kernel
theorem tyX9_ok : ∀ k, k < 15 → parseFieldDescriptor (TX9 k).2.2.1 = some (tyX9 k) := by decide +kernel
abbrev cX9_init : ByteArray := prog_11_method_1_code
def yX9_init : MethodName := ⟨RX9, "<init>", "()V"⟩
abbrev cX9_thrown : ByteArray := prog_11_method_2_code
def yX9_thrown : MethodName := ⟨RX9, "thrown", "()I"⟩
abbrev cX9_refuse : ByteArray := prog_11_method_3_code
def yX9_refuse : MethodName := ⟨RX9, "refuse", "(ZI)Z"⟩
abbrev cX9_start : ByteArray := prog_11_method_4_code
def yX9_start : MethodName := ⟨RX9, "start", "(ZI)Z"⟩
abbrev cX9_isIn : ByteArray := prog_11_method_5_code
def yX9_isIn : MethodName := ⟨RX9, "isIn", "(III)Z"⟩
abbrev cX9_one : ByteArray := prog_11_method_6_code
def yX9_one : MethodName := ⟨RX9, "one", "(Z)I"⟩
abbrev cX9_isNoTrack : ByteArray := prog_11_method_7_code
def yX9_isNoTrack : MethodName := ⟨RX9, "isNoTrack", "(I)Z"⟩
abbrev cX9_isNoSector : ByteArray := prog_11_method_8_code
def yX9_isNoSector : MethodName := ⟨RX9, "isNoSector", "(I)Z"⟩
abbrev cX9_mask : ByteArray := prog_11_method_9_code
def yX9_mask : MethodName := ⟨RX9, "mask", "(II)I"⟩
abbrev cX9_placeOf : ByteArray := prog_11_method_10_code
def yX9_placeOf : MethodName := ⟨RX9, "placeOf", "(I)I"⟩
abbrev cX9_blockOf : ByteArray := prog_11_method_11_code
def yX9_blockOf : MethodName := ⟨RX9, "blockOf", "(IJ)[I"⟩
abbrev cX9_nibblesOf : ByteArray := prog_11_method_12_code
def yX9_nibblesOf : MethodName := ⟨RX9, "nibblesOf", "(I[I)J"⟩
abbrev cX9_sumOf : ByteArray := prog_11_method_13_code
def yX9_sumOf : MethodName := ⟨RX9, "sumOf", "(J)I"⟩
abbrev cX9_at : ByteArray := prog_11_method_14_code
def yX9_at : MethodName := ⟨RX9, "at", "(II)I"⟩
abbrev cX9_parity : ByteArray := prog_11_method_15_code
def yX9_parity : MethodName := ⟨RX9, "parity", "([II)I"⟩
abbrev cX9_fill : ByteArray := prog_11_method_16_code
def yX9_fill : MethodName := ⟨RX9, "fill", "([II)Z"⟩
abbrev cX9_mended : ByteArray := prog_11_method_17_code
def yX9_mended : MethodName := ⟨RX9, "mended", "([I)[I"⟩
abbrev cX9_worth : ByteArray := prog_11_method_18_code
def yX9_worth : MethodName := ⟨RX9, "worth", "(I[I)I"⟩
abbrev cX9_worth_ : ByteArray := prog_11_method_19_code
def yX9_worth_ : MethodName := ⟨RX9, "worth", "(I)I"⟩
abbrev cX9_isGood : ByteArray := prog_11_method_20_code
def yX9_isGood : MethodName := ⟨RX9, "isGood", "(I)Z"⟩
abbrev cX9_bit : ByteArray := prog_11_method_21_code
def yX9_bit : MethodName := ⟨RX9, "bit", "([II)V"⟩
abbrev cX9_after : ByteArray := prog_11_method_22_code
def yX9_after : MethodName := ⟨RX9, "after", "([III)[I"⟩
abbrev cX9_marks : ByteArray := prog_11_method_23_code
def yX9_marks : MethodName := ⟨RX9, "marks", "([I)[I"⟩
abbrev cX9_session : ByteArray := prog_11_method_24_code
def yX9_session : MethodName := ⟨RX9, "session", "()I"⟩
abbrev cX9_track : ByteArray := prog_11_method_25_code
def yX9_track : MethodName := ⟨RX9, "track", "(II)I"⟩
abbrev cX9_isDone : ByteArray := prog_11_method_26_code
def yX9_isDone : MethodName := ⟨RX9, "isDone", "(I)Z"⟩
abbrev cX9_write : ByteArray := prog_11_method_27_code
def yX9_write : MethodName := ⟨RX9, "write", "(IJ)I"⟩
abbrev cX9_starve : ByteArray := prog_11_method_28_code
def yX9_starve : MethodName := ⟨RX9, "starve", "(I)I"⟩
abbrev cX9_close : ByteArray := prog_11_method_29_code
def yX9_close : MethodName := ⟨RX9, "close", "(I)I"⟩
abbrev cX9_end : ByteArray := prog_11_method_30_code
def yX9_end : MethodName := ⟨RX9, "end", "()I"⟩
abbrev cX9_isNoFile : ByteArray := prog_11_method_31_code
def yX9_isNoFile : MethodName := ⟨RX9, "isNoFile", "(I)Z"⟩
abbrev cX9_file : ByteArray := prog_11_method_32_code
def yX9_file : MethodName := ⟨RX9, "file", "(III)I"⟩
abbrev cX9_turnOf : ByteArray := prog_11_method_33_code
def yX9_turnOf : MethodName := ⟨RX9, "turnOf", "(I)I"⟩
abbrev cX9_angleOf : ByteArray := prog_11_method_34_code
def yX9_angleOf : MethodName := ⟨RX9, "angleOf", "(I)D"⟩
abbrev cX9_scratch : ByteArray := prog_11_method_35_code
def yX9_scratch : MethodName := ⟨RX9, "scratch", "(IIII)I"⟩
abbrev cX9_rot : ByteArray := prog_11_method_36_code
def yX9_rot : MethodName := ⟨RX9, "rot", "(I)I"⟩
abbrev cX9_tray : ByteArray := prog_11_method_37_code
def yX9_tray : MethodName := ⟨RX9, "tray", "(Z)Z"⟩
abbrev cX9_push : ByteArray := prog_11_method_38_code
def yX9_push : MethodName := ⟨RX9, "push", "()I"⟩
abbrev cX9_seekFrom : ByteArray := prog_11_method_39_code
def yX9_seekFrom : MethodName := ⟨RX9, "seekFrom", "(II)D"⟩
abbrev cX9_readOf : ByteArray := prog_11_method_40_code
def yX9_readOf : MethodName := ⟨RX9, "readOf", "(I)D"⟩
abbrev cX9_behind : ByteArray := prog_11_method_41_code
def yX9_behind : MethodName := ⟨RX9, "behind", "(I)I"⟩
abbrev cX9_read : ByteArray := prog_11_method_42_code
def yX9_read : MethodName := ⟨RX9, "read", "(I)I"⟩
abbrev cX9_seek : ByteArray := prog_11_method_43_code
def yX9_seek : MethodName := ⟨RX9, "seek", "(I)D"⟩
abbrev cX9_clock : ByteArray := prog_11_method_44_code
def yX9_clock : MethodName := ⟨RX9, "clock", "()D"⟩
abbrev cX9_angle : ByteArray := prog_11_method_45_code
def yX9_angle : MethodName := ⟨RX9, "angle", "(I)D"⟩
abbrev cX9_toldOfSector : ByteArray := prog_11_method_46_code
def yX9_toldOfSector : MethodName := ⟨RX9, "toldOfSector", "(II)I"⟩
abbrev cX9_ofSector : ByteArray := prog_11_method_47_code
def yX9_ofSector : MethodName := ⟨RX9, "ofSector", "(II)I"⟩
abbrev cX9_nibblesAt : ByteArray := prog_11_method_48_code
def yX9_nibblesAt : MethodName := ⟨RX9, "nibblesAt", "(IZ)J"⟩
abbrev cX9_nibbles : ByteArray := prog_11_method_49_code
def yX9_nibbles : MethodName := ⟨RX9, "nibbles", "(IZ)J"⟩
abbrev cX9_place : ByteArray := prog_11_method_50_code
def yX9_place : MethodName := ⟨RX9, "place", "(II)I"⟩
abbrev cX9_toldOfTrack : ByteArray := prog_11_method_51_code
def yX9_toldOfTrack : MethodName := ⟨RX9, "toldOfTrack", "(II)I"⟩
abbrev cX9_ofTrack : ByteArray := prog_11_method_52_code
def yX9_ofTrack : MethodName := ⟨RX9, "ofTrack", "(II)I"⟩
abbrev cX9_toldOfFile : ByteArray := prog_11_method_53_code
def yX9_toldOfFile : MethodName := ⟨RX9, "toldOfFile", "(III)I"⟩
abbrev cX9_ofFile : ByteArray := prog_11_method_54_code
def yX9_ofFile : MethodName := ⟨RX9, "ofFile", "(III)I"⟩
abbrev cX9_sample : ByteArray := prog_11_method_55_code
def yX9_sample : MethodName := ⟨RX9, "sample", "(I)F"⟩
abbrev cX9_isHeard : ByteArray := prog_11_method_56_code
def yX9_isHeard : MethodName := ⟨RX9, "isHeard", "(II)Z"⟩
abbrev cX9_play : ByteArray := prog_11_method_57_code
def yX9_play : MethodName := ⟨RX9, "play", "(I)D"⟩
abbrev cX9_told : ByteArray := prog_11_method_58_code
def yX9_told : MethodName := ⟨RX9, "told", "(I)I"⟩
abbrev cX9_many : ByteArray := prog_11_method_59_code
def yX9_many : MethodName := ⟨RX9, "many", "(I)I"⟩
abbrev cX9_wouldTake : ByteArray := prog_11_method_60_code
def yX9_wouldTake : MethodName := ⟨RX9, "wouldTake", "(II)D"⟩
abbrev cX9_wouldMend : ByteArray := prog_11_method_61_code
def yX9_wouldMend : MethodName := ⟨RX9, "wouldMend", "(II)I"⟩
abbrev cX9_add : ByteArray := prog_11_method_62_code
def yX9_add : MethodName := ⟨RX9, "add", "(JJ)J"⟩
abbrev cX9_digest : ByteArray := prog_11_method_63_code
def yX9_digest : MethodName := ⟨RX9, "digest", "()J"⟩
def RJx145de : String := "java/io/Serializable"
def TJx145de : u_T := fun k => match k with
  | _ => ("", "", "", false)
def tyJx145de : Nat → FieldType := fun k => match k with
  | _ => .int
abbrev wsJx145de0 : List Cond := u_ws RJx145de TJx145de 0
theorem nmJx145de : ∀ a, a < 0 → ∀ b, b < 0 → a ≠ b → (TJx145de a).2.1 ≠ (TJx145de b).2.1 := by decide +kernel
theorem tyJx145de_ok : ∀ k, k < 0 → parseFieldDescriptor (TJx145de k).2.2.1 = some (tyJx145de k) := by decide +kernel
def RJx8e188 : String := "java/lang/Cloneable"
def TJx8e188 : u_T := fun k => match k with
  | _ => ("", "", "", false)
def tyJx8e188 : Nat → FieldType := fun k => match k with
  | _ => .int
abbrev wsJx8e1880 : List Cond := u_ws RJx8e188 TJx8e188 0
theorem nmJx8e188 : ∀ a, a < 0 → ∀ b, b < 0 → a ≠ b → (TJx8e188 a).2.1 ≠ (TJx8e188 b).2.1 := by decide +kernel
theorem tyJx8e188_ok : ∀ k, k < 0 → parseFieldDescriptor (TJx8e188 k).2.2.1 = some (tyJx8e188 k) := by decide +kernel
def RJ6 : String := "java/lang/Integer"
def TJ6 : u_T := fun k => match k with
  | _ => ("", "", "", false)
def tyJ6 : Nat → FieldType := fun k => match k with
  | _ => .int
abbrev wsJ60 : List Cond := u_ws RJ6 TJ6 0
theorem nmJ6 : ∀ a, a < 0 → ∀ b, b < 0 → a ≠ b → (TJ6 a).2.1 ≠ (TJ6 b).2.1 := by decide +kernel
theorem tyJ6_ok : ∀ k, k < 0 → parseFieldDescriptor (TJ6 k).2.2.1 = some (tyJ6 k) := by decide +kernel
abbrev cJ6_numberOfTrailingZeros_0f7a4 : ByteArray := prog_18_method_48_code
def yJ6_numberOfTrailingZeros_0f7a4 : MethodName := ⟨RJ6, "numberOfTrailingZeros", "(I)I"⟩
abbrev cJ6_bitCount_0f7a4 : ByteArray := prog_18_method_49_code
def yJ6_bitCount_0f7a4 : MethodName := ⟨RJ6, "bitCount", "(I)I"⟩
def RJxab1ab : String := "java/lang/Iterable"
def TJxab1ab : u_T := fun k => match k with
  | _ => ("", "", "", false)
def tyJxab1ab : Nat → FieldType := fun k => match k with
  | _ => .int
abbrev wsJxab1ab0 : List Cond := u_ws RJxab1ab TJxab1ab 0
theorem nmJxab1ab : ∀ a, a < 0 → ∀ b, b < 0 → a ≠ b → (TJxab1ab a).2.1 ≠ (TJxab1ab b).2.1 := by decide +kernel
theorem tyJxab1ab_ok : ∀ k, k < 0 → parseFieldDescriptor (TJxab1ab k).2.2.1 = some (tyJxab1ab k) := by decide +kernel
def RJ9 : String := "java/lang/Math"
def TJ9 : u_T := fun k => match k with
  | _ => ("", "", "", false)
def tyJ9 : Nat → FieldType := fun k => match k with
  | _ => .int
abbrev wsJ90 : List Cond := u_ws RJ9 TJ9 0
theorem nmJ9 : ∀ a, a < 0 → ∀ b, b < 0 → a ≠ b → (TJ9 a).2.1 ≠ (TJ9 b).2.1 := by decide +kernel
theorem tyJ9_ok : ∀ k, k < 0 → parseFieldDescriptor (TJ9 k).2.2.1 = some (tyJ9 k) := by decide +kernel
abbrev cJ9_abs_0f7a4 : ByteArray := prog_20_method_59_code
def yJ9_abs_0f7a4 : MethodName := ⟨RJ9, "abs", "(I)I"⟩
abbrev cJ9_max_7cf53 : ByteArray := prog_20_method_65_code
def yJ9_max_7cf53 : MethodName := ⟨RJ9, "max", "(II)I"⟩
abbrev cJ9_min_7cf53 : ByteArray := prog_20_method_69_code
def yJ9_min_7cf53 : MethodName := ⟨RJ9, "min", "(II)I"⟩
def RJ0 : String := "java/lang/String"
def TJ0 : u_T := fun k => match k with
  | _ => ("", "", "", false)
def tyJ0 : Nat → FieldType := fun k => match k with
  | _ => .int
abbrev wsJ00 : List Cond := u_ws RJ0 TJ0 0
theorem nmJ0 : ∀ a, a < 0 → ∀ b, b < 0 → a ≠ b → (TJ0 a).2.1 ≠ (TJ0 b).2.1 := by decide +kernel
theorem tyJ0_ok : ∀ k, k < 0 → parseFieldDescriptor (TJ0 k).2.2.1 = some (tyJ0 k) := by decide +kernel
def RJ10 : String := "java/lang/System"
def TJ10 : u_T := fun k => match k with
  | _ => ("", "", "", false)
def tyJ10 : Nat → FieldType := fun k => match k with
  | _ => .int
abbrev wsJ100 : List Cond := u_ws RJ10 TJ10 0
theorem nmJ10 : ∀ a, a < 0 → ∀ b, b < 0 → a ≠ b → (TJ10 a).2.1 ≠ (TJ10 b).2.1 := by decide +kernel
theorem tyJ10_ok : ∀ k, k < 0 → parseFieldDescriptor (TJ10 k).2.2.1 = some (tyJ10 k) := by decide +kernel
def RJxa1e45 : String := "java/util/AbstractCollection"
def TJxa1e45 : u_T := fun k => match k with
  | _ => ("", "", "", false)
def tyJxa1e45 : Nat → FieldType := fun k => match k with
  | _ => .int
abbrev wsJxa1e450 : List Cond := u_ws RJxa1e45 TJxa1e45 0
theorem nmJxa1e45 : ∀ a, a < 0 → ∀ b, b < 0 → a ≠ b → (TJxa1e45 a).2.1 ≠ (TJxa1e45 b).2.1 := by decide +kernel
theorem tyJxa1e45_ok : ∀ k, k < 0 → parseFieldDescriptor (TJxa1e45 k).2.2.1 = some (tyJxa1e45 k) := by decide +kernel
abbrev cJxa1e45_init_da8c8 : ByteArray := prog_25_method_1_code
def yJxa1e45_init_da8c8 : MethodName := ⟨RJxa1e45, "<init>", "()V"⟩
def RJxc12de : String := "java/util/AbstractList"
def TJxc12de : u_T := fun k => match k with
  | _ => ("", "", "", false)
def tyJxc12de : Nat → FieldType := fun k => match k with
  | _ => .int
abbrev wsJxc12de0 : List Cond := u_ws RJxc12de TJxc12de 0
theorem nmJxc12de : ∀ a, a < 0 → ∀ b, b < 0 → a ≠ b → (TJxc12de a).2.1 ≠ (TJxc12de b).2.1 := by decide +kernel
theorem tyJxc12de_ok : ∀ k, k < 0 → parseFieldDescriptor (TJxc12de k).2.2.1 = some (tyJxc12de k) := by decide +kernel
abbrev cJxc12de_init_da8c8 : ByteArray := prog_26_method_1_code
def yJxc12de_init_da8c8 : MethodName := ⟨RJxc12de, "<init>", "()V"⟩
def RJx35411 : String := "java/util/ArrayList$Itr"
def TJx35411 : u_T := fun k => match k with
  | 0 => ("java/util/ArrayList$Itr", "cursor", "I", false)
  | 1 => ("java/util/ArrayList$Itr", "lastRet", "I", false)
  | 2 => ("java/util/ArrayList$Itr", "expectedModCount", "I", false)
  | _ => ("java/util/ArrayList$Itr", "this$0", "Ljava/util/ArrayList;", true)
def tyJx35411 : Nat → FieldType := fun k => match k with
  | 0 => .int
  | 1 => .int
  | 2 => .int
  | _ => .object "java/util/ArrayList"
abbrev wsJx354110 : List Cond := u_ws RJx35411 TJx35411 4
theorem nmJx35411 : ∀ a, a < 4 → ∀ b, b < 4 → a ≠ b → (TJx35411 a).2.1 ≠ (TJx35411 b).2.1 := by decide +kernel
theorem tyJx35411_ok : ∀ k, k < 4 → parseFieldDescriptor (TJx35411 k).2.2.1 = some (tyJx35411 k) := by decide +kernel
abbrev cJx35411_init_45d68 : ByteArray := prog_28_method_1_code
def yJx35411_init_45d68 : MethodName := ⟨RJx35411, "<init>", "(Ljava/util/ArrayList;)V"⟩
abbrev cJx35411_hasNext_aae02 : ByteArray := prog_28_method_2_code
def yJx35411_hasNext_aae02 : MethodName := ⟨RJx35411, "hasNext", "()Z"⟩
abbrev cJx35411_next_0502b : ByteArray := prog_28_method_3_code
def yJx35411_next_0502b : MethodName := ⟨RJx35411, "next", "()Ljava/lang/Object;"⟩
abbrev cJx35411_checkForComodification_da8c8 : ByteArray := prog_28_method_6_code
def yJx35411_checkForComodification_da8c8 : MethodName := ⟨RJx35411, "checkForComodification", "()V"⟩
def RJx4a65c : String := "java/util/ArrayList"
def TJx4a65c : u_T := fun k => match k with
  | 0 => ("java/util/AbstractList", "modCount", "I", false)
  | 1 => ("java/util/ArrayList", "elementData", "[Ljava/lang/Object;", false)
  | _ => ("java/util/ArrayList", "size", "I", false)
def tyJx4a65c : Nat → FieldType := fun k => match k with
  | 0 => .int
  | 1 => .array (.object "java/lang/Object")
  | _ => .int
abbrev wsJx4a65c0 : List Cond := u_ws RJx4a65c TJx4a65c 3
theorem nmJx4a65c : ∀ a, a < 3 → ∀ b, b < 3 → a ≠ b → (TJx4a65c a).2.1 ≠ (TJx4a65c b).2.1 := by decide +kernel
theorem tyJx4a65c_ok : ∀ k, k < 3 → parseFieldDescriptor (TJx4a65c k).2.2.1 = some (tyJx4a65c k) := by decide +kernel
abbrev cJx4a65c_init_da8c8 : ByteArray := prog_27_method_2_code
def yJx4a65c_init_da8c8 : MethodName := ⟨RJx4a65c, "<init>", "()V"⟩
abbrev cJx4a65c_grow_92f84 : ByteArray := prog_27_method_6_code
def yJx4a65c_grow_92f84 : MethodName := ⟨RJx4a65c, "grow", "(I)[Ljava/lang/Object;"⟩
abbrev cJx4a65c_grow_d5877 : ByteArray := prog_27_method_7_code
def yJx4a65c_grow_d5877 : MethodName := ⟨RJx4a65c, "grow", "()[Ljava/lang/Object;"⟩
abbrev cJx4a65c_size_8abf5 : ByteArray := prog_27_method_8_code
def yJx4a65c_size_8abf5 : MethodName := ⟨RJx4a65c, "size", "()I"⟩
abbrev cJx4a65c_elementData_915e3 : ByteArray := prog_27_method_18_code
def yJx4a65c_elementData_915e3 : MethodName := ⟨RJx4a65c, "elementData", "(I)Ljava/lang/Object;"⟩
abbrev cJx4a65c_get_915e3 : ByteArray := prog_27_method_20_code
def yJx4a65c_get_915e3 : MethodName := ⟨RJx4a65c, "get", "(I)Ljava/lang/Object;"⟩
abbrev cJx4a65c_add_72be8 : ByteArray := prog_27_method_24_code
def yJx4a65c_add_72be8 : MethodName := ⟨RJx4a65c, "add", "(Ljava/lang/Object;[Ljava/lang/Object;I)V"⟩
abbrev cJx4a65c_add_9ea2d : ByteArray := prog_27_method_25_code
def yJx4a65c_add_9ea2d : MethodName := ⟨RJx4a65c, "add", "(Ljava/lang/Object;)Z"⟩
abbrev cJx4a65c_iterator_32c93 : ByteArray := prog_27_method_55_code
def yJx4a65c_iterator_32c93 : MethodName := ⟨RJx4a65c, "iterator", "()Ljava/util/Iterator;"⟩
def RJ7 : String := "java/util/Arrays"
def TJ7 : u_T := fun k => match k with
  | _ => ("", "", "", false)
def tyJ7 : Nat → FieldType := fun k => match k with
  | _ => .int
abbrev wsJ70 : List Cond := u_ws RJ7 TJ7 0
theorem nmJ7 : ∀ a, a < 0 → ∀ b, b < 0 → a ≠ b → (TJ7 a).2.1 ≠ (TJ7 b).2.1 := by decide +kernel
theorem tyJ7_ok : ∀ k, k < 0 → parseFieldDescriptor (TJ7 k).2.2.1 = some (tyJ7 k) := by decide +kernel
abbrev cJ7_copyOf_1904c : ByteArray := prog_29_method_119_code
def yJ7_copyOf_1904c : MethodName := ⟨RJ7, "copyOf", "([Ljava/lang/Object;I)[Ljava/lang/Object;"⟩
abbrev cJ7_copyOf_6403c : ByteArray := prog_29_method_120_code
def yJ7_copyOf_6403c : MethodName := ⟨RJ7, "copyOf", "([Ljava/lang/Object;ILjava/lang/Class;)[Ljava/lang/Object;"⟩
def RJx5ef63 : String := "java/util/Collection"
def TJx5ef63 : u_T := fun k => match k with
  | _ => ("", "", "", false)
def tyJx5ef63 : Nat → FieldType := fun k => match k with
  | _ => .int
abbrev wsJx5ef630 : List Cond := u_ws RJx5ef63 TJx5ef63 0
theorem nmJx5ef63 : ∀ a, a < 0 → ∀ b, b < 0 → a ≠ b → (TJx5ef63 a).2.1 ≠ (TJx5ef63 b).2.1 := by decide +kernel
theorem tyJx5ef63_ok : ∀ k, k < 0 → parseFieldDescriptor (TJx5ef63 k).2.2.1 = some (tyJx5ef63 k) := by decide +kernel
def RJx4d0d8 : String := "java/util/Iterator"
def TJx4d0d8 : u_T := fun k => match k with
  | _ => ("", "", "", false)
def tyJx4d0d8 : Nat → FieldType := fun k => match k with
  | _ => .int
abbrev wsJx4d0d80 : List Cond := u_ws RJx4d0d8 TJx4d0d8 0
theorem nmJx4d0d8 : ∀ a, a < 0 → ∀ b, b < 0 → a ≠ b → (TJx4d0d8 a).2.1 ≠ (TJx4d0d8 b).2.1 := by decide +kernel
theorem tyJx4d0d8_ok : ∀ k, k < 0 → parseFieldDescriptor (TJx4d0d8 k).2.2.1 = some (tyJx4d0d8 k) := by decide +kernel
def RJxbd725 : String := "java/util/List"
def TJxbd725 : u_T := fun k => match k with
  | _ => ("", "", "", false)
def tyJxbd725 : Nat → FieldType := fun k => match k with
  | _ => .int
abbrev wsJxbd7250 : List Cond := u_ws RJxbd725 TJxbd725 0
theorem nmJxbd725 : ∀ a, a < 0 → ∀ b, b < 0 → a ≠ b → (TJxbd725 a).2.1 ≠ (TJxbd725 b).2.1 := by decide +kernel
theorem tyJxbd725_ok : ∀ k, k < 0 → parseFieldDescriptor (TJxbd725 k).2.2.1 = some (tyJxbd725 k) := by decide +kernel
def RJ15 : String := "java/util/Objects"
def TJ15 : u_T := fun k => match k with
  | _ => ("", "", "", false)
def tyJ15 : Nat → FieldType := fun k => match k with
  | _ => .int
abbrev wsJ150 : List Cond := u_ws RJ15 TJ15 0
theorem nmJ15 : ∀ a, a < 0 → ∀ b, b < 0 → a ≠ b → (TJ15 a).2.1 ≠ (TJ15 b).2.1 := by decide +kernel
theorem tyJ15_ok : ∀ k, k < 0 → parseFieldDescriptor (TJ15 k).2.2.1 = some (tyJ15 k) := by decide +kernel
abbrev cJ15_checkIndex_7cf53 : ByteArray := prog_33_method_17_code
def yJ15_checkIndex_7cf53 : MethodName := ⟨RJ15, "checkIndex", "(II)I"⟩
def RJxf0a74 : String := "java/util/RandomAccess"
def TJxf0a74 : u_T := fun k => match k with
  | _ => ("", "", "", false)
def tyJxf0a74 : Nat → FieldType := fun k => match k with
  | _ => .int
abbrev wsJxf0a740 : List Cond := u_ws RJxf0a74 TJxf0a74 0
theorem nmJxf0a74 : ∀ a, a < 0 → ∀ b, b < 0 → a ≠ b → (TJxf0a74 a).2.1 ≠ (TJxf0a74 b).2.1 := by decide +kernel
theorem tyJxf0a74_ok : ∀ k, k < 0 → parseFieldDescriptor (TJxf0a74 k).2.2.1 = some (tyJxf0a74 k) := by decide +kernel
def RJxa66e6 : String := "java/util/SequencedCollection"
def TJxa66e6 : u_T := fun k => match k with
  | _ => ("", "", "", false)
def tyJxa66e6 : Nat → FieldType := fun k => match k with
  | _ => .int
abbrev wsJxa66e60 : List Cond := u_ws RJxa66e6 TJxa66e6 0
theorem nmJxa66e6 : ∀ a, a < 0 → ∀ b, b < 0 → a ≠ b → (TJxa66e6 a).2.1 ≠ (TJxa66e6 b).2.1 := by decide +kernel
theorem tyJxa66e6_ok : ∀ k, k < 0 → parseFieldDescriptor (TJxa66e6 k).2.2.1 = some (tyJxa66e6 k) := by decide +kernel
def RJ8 : String := "jdk/internal/util/ArraysSupport"
def TJ8 : u_T := fun k => match k with
  | _ => ("", "", "", false)
def tyJ8 : Nat → FieldType := fun k => match k with
  | _ => .int
abbrev wsJ80 : List Cond := u_ws RJ8 TJ8 0
theorem nmJ8 : ∀ a, a < 0 → ∀ b, b < 0 → a ≠ b → (TJ8 a).2.1 ≠ (TJ8 b).2.1 := by decide +kernel
theorem tyJ8_ok : ∀ k, k < 0 → parseFieldDescriptor (TJ8 k).2.2.1 = some (tyJ8 k) := by decide +kernel
abbrev cJ8_newLength_cabcc : ByteArray := prog_36_method_27_code
def yJ8_newLength_cabcc : MethodName := ⟨RJ8, "newLength", "(III)I"⟩
abbrev cJ8_hugeLength_7cf53 : ByteArray := prog_36_method_28_code
def yJ8_hugeLength_7cf53 : MethodName := ⟨RJ8, "hugeLength", "(II)I"⟩
def RJ3 : String := "jdk/internal/util/Preconditions"
def TJ3 : u_T := fun k => match k with
  | _ => ("", "", "", false)
def tyJ3 : Nat → FieldType := fun k => match k with
  | _ => .int
abbrev wsJ30 : List Cond := u_ws RJ3 TJ3 0
theorem nmJ3 : ∀ a, a < 0 → ∀ b, b < 0 → a ≠ b → (TJ3 a).2.1 ≠ (TJ3 b).2.1 := by decide +kernel
theorem tyJ3_ok : ∀ k, k < 0 → parseFieldDescriptor (TJ3 k).2.2.1 = some (tyJ3 k) := by decide +kernel
abbrev cJ3_checkIndex_8e157 : ByteArray := prog_37_method_11_code
def yJ3_checkIndex_8e157 : MethodName := ⟨RJ3, "checkIndex", "(IILjava/util/function/BiFunction;)I"⟩
def RL : String := "PitHouseLaw"
abbrev cL_session : ByteArray := method_3_code
def yL_session : MethodName := ⟨RL, "session", "(LPitHouse;[J)I"⟩
abbrev cL_track : ByteArray := method_4_code
def yL_track : MethodName := ⟨RL, "track", "(LPitHouse;II[J)I"⟩
abbrev cL_write : ByteArray := method_5_code
def yL_write : MethodName := ⟨RL, "write", "(LPitHouse;IJ[J)I"⟩
abbrev cL_starve : ByteArray := method_6_code
def yL_starve : MethodName := ⟨RL, "starve", "(LPitHouse;I[J)I"⟩
abbrev cL_close : ByteArray := method_7_code
def yL_close : MethodName := ⟨RL, "close", "(LPitHouse;I[J)I"⟩
abbrev cL_end : ByteArray := method_8_code
def yL_end : MethodName := ⟨RL, "end", "(LPitHouse;[J)I"⟩
abbrev cL_file : ByteArray := method_9_code
def yL_file : MethodName := ⟨RL, "file", "(LPitHouse;III[J)I"⟩
abbrev cL_scratch : ByteArray := method_10_code
def yL_scratch : MethodName := ⟨RL, "scratch", "(LPitHouse;IIII[J)I"⟩
abbrev cL_rot : ByteArray := method_11_code
def yL_rot : MethodName := ⟨RL, "rot", "(LPitHouse;I[J)I"⟩
abbrev cL_read : ByteArray := method_12_code
def yL_read : MethodName := ⟨RL, "read", "(LPitHouse;I[J)I"⟩
abbrev cL_seek : ByteArray := method_13_code
def yL_seek : MethodName := ⟨RL, "seek", "(LPitHouse;I[D)I"⟩
abbrev cL_angle : ByteArray := method_14_code
def yL_angle : MethodName := ⟨RL, "angle", "(LPitHouse;I[D)I"⟩
abbrev cL_ofSector : ByteArray := method_15_code
def yL_ofSector : MethodName := ⟨RL, "ofSector", "(LPitHouse;II[J)I"⟩
abbrev cL_nibbles : ByteArray := method_16_code
def yL_nibbles : MethodName := ⟨RL, "nibbles", "(LPitHouse;IZ[J)I"⟩
abbrev cL_place : ByteArray := method_17_code
def yL_place : MethodName := ⟨RL, "place", "(LPitHouse;II[J)I"⟩
abbrev cL_ofTrack : ByteArray := method_18_code
def yL_ofTrack : MethodName := ⟨RL, "ofTrack", "(LPitHouse;II[J)I"⟩
abbrev cL_ofFile : ByteArray := method_19_code
def yL_ofFile : MethodName := ⟨RL, "ofFile", "(LPitHouse;III[J)I"⟩
abbrev cL_play : ByteArray := method_20_code
def yL_play : MethodName := ⟨RL, "play", "(LPitHouse;I[D)I"⟩
abbrev cL_many : ByteArray := method_21_code
def yL_many : MethodName := ⟨RL, "many", "(LPitHouse;I[J)I"⟩
abbrev cL_wouldTake : ByteArray := method_22_code
def yL_wouldTake : MethodName := ⟨RL, "wouldTake", "(LPitHouse;II[D)I"⟩
abbrev cL_wouldMend : ByteArray := method_23_code
def yL_wouldMend : MethodName := ⟨RL, "wouldMend", "(LPitHouse;II[J)I"⟩
abbrev cL_law : ByteArray := code
def yL_law : MethodName := ⟨RL, "law", "([I)Z"⟩
end
section
def pT : List Cond := lw_tbl.filter goodWord
theorem pT_mem {w : Cond} (i : Nat) (h : lw_tbl[i]? = some w) (hg : goodWord w = true) : w ∈ pT := List.mem_filter.mpr ⟨List.mem_of_getElem? h, hg⟩
def pN : List Cond := [(Jvm.Cond.arrayOver (Jvm.ClassFile.FieldType.object "PitHouse$Sector")), (Jvm.Cond.arrayOver (Jvm.ClassFile.FieldType.object "PitHouse$Track")), (Jvm.Cond.methodLinkNest "PitHouse" (23 : Nat) ({ cls := "PitHouse$FileTable", name := "<init>", desc := "()V" } : Jvm.MethodName) "PitHouse"), (Jvm.Cond.arrayOver (Jvm.ClassFile.FieldType.array Jvm.ClassFile.FieldType.int)), (Jvm.Cond.methodLinkNest "PitHouse" (30 : Nat) ({ cls := "PitHouse$Drive", name := "<init>", desc := "()V" } : Jvm.MethodName) "PitHouse"), (Jvm.Cond.fieldLinkNest "PitHouse" (199 : Nat) "PitHouse$Drive" "head" "I" "PitHouse"), (Jvm.Cond.fieldLinkNest "PitHouse" (206 : Nat) "PitHouse$Drive" "clock" "D" "PitHouse"), (Jvm.Cond.fieldLinkNest "PitHouse" (298 : Nat) "PitHouse$Drive" "reads" "I" "PitHouse"), (Jvm.Cond.fieldLinkNest "PitHouse" (182 : Nat) "PitHouse$Drive" "isTrayOpen" "Z" "PitHouse"), (Jvm.Cond.fieldLinkNest "PitHouse" (185 : Nat) "PitHouse$Drive" "refusals" "I" "PitHouse"), (Jvm.Cond.methodLinkNest "PitHouse" (37 : Nat) ({ cls := "PitHouse$Bench", name := "<init>", desc := "()V" } : Jvm.MethodName) "PitHouse"), (Jvm.Cond.methodLinkNest "PitHouse$Bench" (9 : Nat) ({ cls := "PitHouse$Block", name := "<init>", desc := "()V" } : Jvm.MethodName) "PitHouse"), (Jvm.Cond.fieldLinkNest "PitHouse$Sector" (118 : Nat) "PitHouse$Block" "erased" "I" "PitHouse"), (Jvm.Cond.fieldLinkNest "PitHouse" (214 : Nat) "PitHouse$Block" "erased" "I" "PitHouse"), (Jvm.Cond.methodLinkNest "PitHouse$Bench" (18 : Nat) ({ cls := "PitHouse$Marks", name := "<init>", desc := "()V" } : Jvm.MethodName) "PitHouse"), (Jvm.Cond.fieldLinkNest "PitHouse$Sector" (116 : Nat) "PitHouse$Marks" "dsv" "I" "PitHouse"), (Jvm.Cond.fieldLinkNest "PitHouse$Sector" (115 : Nat) "PitHouse$Marks" "turns" "I" "PitHouse"), (Jvm.Cond.fieldLinkNest "PitHouse$Sector" (117 : Nat) "PitHouse$Marks" "farthest" "I" "PitHouse"), (Jvm.Cond.fieldLinkNest "PitHouse$Sector" (101 : Nat) "PitHouse$Bench" "copy" "LPitHouse$Block;" "PitHouse"), (Jvm.Cond.fieldLinkNest "PitHouse" (316 : Nat) "PitHouse$Bench" "copy" "LPitHouse$Block;" "PitHouse"), (Jvm.Cond.fieldLinkNest "PitHouse$Sector" (106 : Nat) "PitHouse$Bench" "marks" "LPitHouse$Marks;" "PitHouse"), (Jvm.Cond.methodLinkNest "PitHouse$Sector" (11 : Nat) ({ cls := "PitHouse$Block", name := "<init>", desc := "()V" } : Jvm.MethodName) "PitHouse"), (Jvm.Cond.fieldLinkNest "PitHouse" (210 : Nat) "PitHouse$Sector" "block" "LPitHouse$Block;" "PitHouse"), (Jvm.Cond.fieldLinkNest "PitHouse" (169 : Nat) "PitHouse$Sector" "isWritten" "Z" "PitHouse"), (Jvm.Cond.fieldLinkNest "PitHouse" (196 : Nat) "PitHouse$Sector" "state" "I" "PitHouse"), (Jvm.Cond.fieldLinkNest "PitHouse" (238 : Nat) "PitHouse$Sector" "mended" "J" "PitHouse"), (Jvm.Cond.fieldLinkNest "PitHouse" (224 : Nat) "PitHouse$Sector" "turns" "I" "PitHouse"), (Jvm.Cond.fieldLinkNest "PitHouse" (227 : Nat) "PitHouse$Sector" "dsv" "I" "PitHouse"), (Jvm.Cond.fieldLinkNest "PitHouse" (230 : Nat) "PitHouse$Sector" "farthest" "I" "PitHouse"), (Jvm.Cond.methodLinkNest "PitHouse" (62 : Nat) ({ cls := "PitHouse$Track", name := "<init>", desc := "()V" } : Jvm.MethodName) "PitHouse"), (Jvm.Cond.fieldLinkNest "PitHouse" (257 : Nat) "PitHouse$Track" "session" "I" "PitHouse"), (Jvm.Cond.fieldLinkNest "PitHouse" (108 : Nat) "PitHouse$Track" "mode" "I" "PitHouse"), (Jvm.Cond.fieldLinkNest "PitHouse" (88 : Nat) "PitHouse$Track" "first" "I" "PitHouse"), (Jvm.Cond.fieldLinkNest "PitHouse" (260 : Nat) "PitHouse$Track" "has" "I" "PitHouse"), (Jvm.Cond.fieldLinkNest "PitHouse" (263 : Nat) "PitHouse$Track" "used" "I" "PitHouse"), (Jvm.Cond.fieldLinkNest "PitHouse" (117 : Nat) "PitHouse$Track" "links" "I" "PitHouse"), (Jvm.Cond.fieldLinkNest "PitHouse" (120 : Nat) "PitHouse$Track" "isClosed" "Z" "PitHouse"), (Jvm.Cond.fieldLinkNest "java/util/ArrayList$Itr" (28 : Nat) "java/util/ArrayList" "size" "I" "java/util/ArrayList")]
theorem pN_ok : ∀ w ∈ pN, (∃ a i b n d h, w = Jvm.Cond.fieldLinkNest a i b n d h) ∨ (∃ a i x h, w = Jvm.Cond.methodLinkNest a i x h) ∨ (∃ C, w = Jvm.Cond.arrayOver (.object C)) ∨ ∃ t, w = Jvm.Cond.arrayOver (.array t) := List.forall_mem_cons.mpr ⟨Or.inr (Or.inr (Or.inl ⟨_, rfl⟩)), List.forall_mem_cons.mpr ⟨Or.inr (Or.inr (Or.inl ⟨_, rfl⟩)), List.forall_mem_cons.mpr ⟨Or.inr (Or.inl ⟨_, _, _, _, rfl⟩), List.forall_mem_cons.mpr ⟨Or.inr (Or.inr (Or.inr ⟨_, rfl⟩)), List.forall_mem_cons.mpr ⟨Or.inr (Or.inl ⟨_, _, _, _, rfl⟩), List.forall_mem_cons.mpr ⟨Or.inl ⟨_, _, _, _, _, _, rfl⟩, List.forall_mem_cons.mpr ⟨Or.inl ⟨_, _, _, _, _, _, rfl⟩, List.forall_mem_cons.mpr ⟨Or.inl ⟨_, _, _, _, _, _, rfl⟩, List.forall_mem_cons.mpr ⟨Or.inl ⟨_, _, _, _, _, _, rfl⟩, List.forall_mem_cons.mpr ⟨Or.inl ⟨_, _, _, _, _, _, rfl⟩, List.forall_mem_cons.mpr ⟨Or.inr (Or.inl ⟨_, _, _, _, rfl⟩), List.forall_mem_cons.mpr ⟨Or.inr (Or.inl ⟨_, _, _, _, rfl⟩), List.forall_mem_cons.mpr ⟨Or.inl ⟨_, _, _, _, _, _, rfl⟩, List.forall_mem_cons.mpr ⟨Or.inl ⟨_, _, _, _, _, _, rfl⟩, List.forall_mem_cons.mpr ⟨Or.inr (Or.inl ⟨_, _, _, _, rfl⟩), List.forall_mem_cons.mpr ⟨Or.inl ⟨_, _, _, _, _, _, rfl⟩, List.forall_mem_cons.mpr ⟨Or.inl ⟨_, _, _, _, _, _, rfl⟩, List.forall_mem_cons.mpr ⟨Or.inl ⟨_, _, _, _, _, _, rfl⟩, List.forall_mem_cons.mpr ⟨Or.inl ⟨_, _, _, _, _, _, rfl⟩, List.forall_mem_cons.mpr ⟨Or.inl ⟨_, _, _, _, _, _, rfl⟩, List.forall_mem_cons.mpr ⟨Or.inl ⟨_, _, _, _, _, _, rfl⟩, List.forall_mem_cons.mpr ⟨Or.inr (Or.inl ⟨_, _, _, _, rfl⟩), List.forall_mem_cons.mpr ⟨Or.inl ⟨_, _, _, _, _, _, rfl⟩, List.forall_mem_cons.mpr ⟨Or.inl ⟨_, _, _, _, _, _, rfl⟩, List.forall_mem_cons.mpr ⟨Or.inl ⟨_, _, _, _, _, _, rfl⟩, List.forall_mem_cons.mpr ⟨Or.inl ⟨_, _, _, _, _, _, rfl⟩, List.forall_mem_cons.mpr ⟨Or.inl ⟨_, _, _, _, _, _, rfl⟩, List.forall_mem_cons.mpr ⟨Or.inl ⟨_, _, _, _, _, _, rfl⟩, List.forall_mem_cons.mpr ⟨Or.inl ⟨_, _, _, _, _, _, rfl⟩, List.forall_mem_cons.mpr ⟨Or.inr (Or.inl ⟨_, _, _, _, rfl⟩), List.forall_mem_cons.mpr ⟨Or.inl ⟨_, _, _, _, _, _, rfl⟩, List.forall_mem_cons.mpr ⟨Or.inl ⟨_, _, _, _, _, _, rfl⟩, List.forall_mem_cons.mpr ⟨Or.inl ⟨_, _, _, _, _, _, rfl⟩, List.forall_mem_cons.mpr ⟨Or.inl ⟨_, _, _, _, _, _, rfl⟩, List.forall_mem_cons.mpr ⟨Or.inl ⟨_, _, _, _, _, _, rfl⟩, List.forall_mem_cons.mpr ⟨Or.inl ⟨_, _, _, _, _, _, rfl⟩, List.forall_mem_cons.mpr ⟨Or.inl ⟨_, _, _, _, _, _, rfl⟩, List.forall_mem_cons.mpr ⟨Or.inl ⟨_, _, _, _, _, _, rfl⟩, fun _ h => absurd h List.not_mem_nil⟩⟩⟩⟩⟩⟩⟩⟩⟩⟩⟩⟩⟩⟩⟩⟩⟩⟩⟩⟩⟩⟩⟩⟩⟩⟩⟩⟩⟩⟩⟩⟩⟩⟩⟩⟩⟩⟩
theorem pN_in : ∀ w ∈ pN, w ∈ lw_tbl := by
  intro w hw
  have h : pN.all (fun w => lw_tbl.contains w) = true := by decide +kernel
  exact List.contains_iff_mem.mp (List.all_eq_true.mp h w hw)
def pC : List vw_C := [(RX8, TX8, 10), (RX0, TX0, 2), (RX1, TX1, 2), (RX2, TX2, 5), (RX3, TX3, 2), (RX4, TX4, 4), (RX5, TX5, 10), (RX7, TX7, 7), (RX7, TX7, 7), (RX9, TX9, 15), ("java/lang/IllegalStateException", fun _ => ("", "", "", false), 0), ("java/lang/IllegalArgumentException", fun _ => ("", "", "", false), 0), ("java/lang/IndexOutOfBoundsException", fun _ => ("", "", "", false), 0), (RJx4a65c, TJx4a65c, 3), (RJx35411, TJx35411, 4)]
def pM : List mi_M := [
  (yX8_init, cX8_init, 2, (none)),
  (yX8_session, cX8_session, 1, (some .int)),
  (yX8_track, cX8_track, 4, (some .int)),
  (yX8_write, cX8_write, 6, (some .int)),
  (yX8_starve, cX8_starve, 3, (some .int)),
  (yX8_close, cX8_close, 4, (some .int)),
  (yX8_end, cX8_end, 1, (some .int)),
  (yX8_file, cX8_file, 5, (some .int)),
  (yX8_scratch, cX8_scratch, 10, (some .int)),
  (yX8_rot, cX8_rot, 5, (some .int)),
  (yX8_tray, cX8_tray, 3, (some .boolean)),
  (yX8_push, cX8_push, 1, (some .int)),
  (yX8_read, cX8_read, 2, (some .int)),
  (yX8_seek, cX8_seek, 2, (some .double)),
  (yX8_clock, cX8_clock, 1, (some .double)),
  (yX8_angle, cX8_angle, 2, (some .double)),
  (yX8_ofSector, cX8_ofSector, 4, (some .int)),
  (yX8_nibbles, cX8_nibbles, 3, (some .long)),
  (yX8_place, cX8_place, 4, (some .int)),
  (yX8_ofTrack, cX8_ofTrack, 4, (some .int)),
  (yX8_ofFile, cX8_ofFile, 7, (some .int)),
  (yX8_play, cX8_play, 3, (some .double)),
  (yX8_many, cX8_many, 2, (some .int)),
  (yX8_wouldTake, cX8_wouldTake, 3, (some .double)),
  (yX8_wouldMend, cX8_wouldMend, 3, (some .int)),
  (yX8_digest, cX8_digest, 4, (some .long)),
  (yX8_digestTracks, cX8_digestTracks, 7, (some .long)),
  (yX8_digestSectors, cX8_digestSectors, 7, (some .long)),
  (yX8_digestFiles, cX8_digestFiles, 8, (some .long)),
  (yX8_isSector, cX8_isSector, 1, (some .boolean)),
  (yX8_checkSector, cX8_checkSector, 1, (none)),
  (yX8_checkFile, cX8_checkFile, 1, (none)),
  (yX8_trackAt, cX8_trackAt, 2, (some (.object "PitHouse$Track"))),
  (yX8_left, cX8_left, 1, (some .int)),
  (yX8_trackOf, cX8_trackOf, 3, (some .int)),
  (yX8_hasOpenTrack, cX8_hasOpenTrack, 2, (some .boolean)),
  (yX8_isGood, cX8_isGood, 2, (some .boolean)),
  (yX8_goodFrom, cX8_goodFrom, 5, (some .int)),
  (yX8_writtenOf, cX8_writtenOf, 4, (some .int)),
  (yX8_sampleBetween, cX8_sampleBetween, 6, (some .float)),
  (yX0_init, cX0_init, 1, (none)),
  (yX1_init, cX1_init, 1, (none)),
  (yX1_valueAt, cX1_valueAt, 2, (some .int)),
  (yX1_isErased, cX1_isErased, 2, (some .boolean)),
  (yX1_put, cX1_put, 3, (none)),
  (yX1_erase, cX1_erase, 3, (none)),
  (yX1_copyFrom, cX1_copyFrom, 2, (none)),
  (yX1_spread, cX1_spread, 4, (none)),
  (yX1_gathered, cX1_gathered, 4, (some .long)),
  (yX1_mend, cX1_mend, 4, (none)),
  (yX1_isEven, cX1_isEven, 2, (some .boolean)),
  (yX1_fillErased, cX1_fillErased, 5, (none)),
  (yX1_onlyOddOf, cX1_onlyOddOf, 4, (some .int)),
  (yX1_parityOf, cX1_parityOf, 7, (some .int)),
  (yX1_placeOf, cX1_placeOf, 1, (some .int)),
  (yX2_init, cX2_init, 1, (none)),
  (yX2_seekTime, cX2_seekTime, 6, (some .double)),
  (yX2_restOfTurn, cX2_restOfTurn, 4, (some .double)),
  (yX2_clockBehind, cX2_clockBehind, 6, (some .double)),
  (yX2_headBehind, cX2_headBehind, 1, (some .int)),
  (yX2_passOver, cX2_passOver, 2, (none)),
  (yX2_timeOver, cX2_timeOver, 7, (some .double)),
  (yX3_init, cX3_init, 1, (none)),
  (yX3_tell, cX3_tell, 5, (none)),
  (yX3_tellerOf, cX3_tellerOf, 4, (some .int)),
  (yX3_firstOf, cX3_firstOf, 3, (some .int)),
  (yX3_lengthOf, cX3_lengthOf, 3, (some .int)),
  (yX4_init, cX4_init, 1, (none)),
  (yX4_mark, cX4_mark, 5, (none)),
  (yX4_isJoined, cX4_isJoined, 3, (some .boolean)),
  (yX4_dsvBehind, cX4_dsvBehind, 5, (some .int)),
  (yX4_putBits, cX4_putBits, 3, (none)),
  (yX5_init, cX5_init, 2, (none)),
  (yX5_fillWith, cX5_fillWith, 5, (none)),
  (yX5_eraseColumn, cX5_eraseColumn, 6, (none)),
  (yX5_makeWrong, cX5_makeWrong, 4, (some .boolean)),
  (yX5_raw, cX5_raw, 1, (some .long)),
  (yX5_sample, cX5_sample, 3, (some .float)),
  (yX5_stateWithout, cX5_stateWithout, 3, (some .int)),
  (yX5_reckon, cX5_reckon, 2, (none)),
  (yX5_judged, cX5_judged, 3, (some .int)),
  (yX5_mixed, cX5_mixed, 7, (some .long)),
  (yX5_sumOf, cX5_sumOf, 4, (some .int)),
  (yX5_nibbleOf, cX5_nibbleOf, 3, (some .int)),
  (yX6_zoneOf, cX6_zoneOf, 1, (some .int)),
  (yX6_turnOf, cX6_turnOf, 2, (some .int)),
  (yX6_angleOf, cX6_angleOf, 3, (some .double)),
  (yX6_speedOf, cX6_speedOf, 2, (some .float)),
  (yX6_positionOf, cX6_positionOf, 3, (some .int)),
  (yX7_init, cX7_init, 1, (none)),
  (yX7_reserve, cX7_reserve, 5, (none)),
  (yX7_behind, cX7_behind, 1, (some .int)),
  (yX7_holds, cX7_holds, 2, (some .boolean)),
  (yX7_hasRoom, cX7_hasRoom, 1, (some .boolean)),
  (yX7_takeNext, cX7_takeNext, 1, (some .int)),
  (yX7_giveBack, cX7_giveBack, 2, (some .int)),
  (yX9_init, cX9_init, 2, (none)),
  (yX9_thrown, cX9_thrown, 1, (some .int)),
  (yX9_refuse, cX9_refuse, 3, (some .boolean)),
  (yX9_start, cX9_start, 3, (some .boolean)),
  (yX9_isIn, cX9_isIn, 3, (some .boolean)),
  (yX9_one, cX9_one, 1, (some .int)),
  (yX9_isNoTrack, cX9_isNoTrack, 2, (some .boolean)),
  (yX9_isNoSector, cX9_isNoSector, 1, (some .boolean)),
  (yX9_mask, cX9_mask, 4, (some .int)),
  (yX9_placeOf, cX9_placeOf, 1, (some .int)),
  (yX9_blockOf, cX9_blockOf, 5, (some (.array .int))),
  (yX9_nibblesOf, cX9_nibblesOf, 5, (some .long)),
  (yX9_sumOf, cX9_sumOf, 4, (some .int)),
  (yX9_at, cX9_at, 2, (some .int)),
  (yX9_parity, cX9_parity, 4, (some .int)),
  (yX9_fill, cX9_fill, 6, (some .boolean)),
  (yX9_mended, cX9_mended, 8, (some (.array .int))),
  (yX9_worth, cX9_worth, 6, (some .int)),
  (yX9_worth_, cX9_worth_, 2, (some .int)),
  (yX9_isGood, cX9_isGood, 2, (some .boolean)),
  (yX9_bit, cX9_bit, 2, (none)),
  (yX9_after, cX9_after, 5, (some (.array .int))),
  (yX9_marks, cX9_marks, 7, (some (.array .int))),
  (yX9_session, cX9_session, 1, (some .int)),
  (yX9_track, cX9_track, 5, (some .int)),
  (yX9_isDone, cX9_isDone, 3, (some .boolean)),
  (yX9_write, cX9_write, 6, (some .int)),
  (yX9_starve, cX9_starve, 3, (some .int)),
  (yX9_close, cX9_close, 5, (some .int)),
  (yX9_end, cX9_end, 4, (some .int)),
  (yX9_isNoFile, cX9_isNoFile, 2, (some .boolean)),
  (yX9_file, cX9_file, 6, (some .int)),
  (yX9_turnOf, cX9_turnOf, 1, (some .int)),
  (yX9_angleOf, cX9_angleOf, 3, (some .double)),
  (yX9_scratch, cX9_scratch, 8, (some .int)),
  (yX9_rot, cX9_rot, 5, (some .int)),
  (yX9_tray, cX9_tray, 3, (some .boolean)),
  (yX9_push, cX9_push, 1, (some .int)),
  (yX9_seekFrom, cX9_seekFrom, 6, (some .double)),
  (yX9_readOf, cX9_readOf, 2, (some .double)),
  (yX9_behind, cX9_behind, 1, (some .int)),
  (yX9_read, cX9_read, 2, (some .int)),
  (yX9_seek, cX9_seek, 2, (some .double)),
  (yX9_clock, cX9_clock, 1, (some .double)),
  (yX9_angle, cX9_angle, 2, (some .double)),
  (yX9_toldOfSector, cX9_toldOfSector, 8, (some .int)),
  (yX9_ofSector, cX9_ofSector, 3, (some .int)),
  (yX9_nibblesAt, cX9_nibblesAt, 4, (some .long)),
  (yX9_nibbles, cX9_nibbles, 3, (some .long)),
  (yX9_place, cX9_place, 3, (some .int)),
  (yX9_toldOfTrack, cX9_toldOfTrack, 6, (some .int)),
  (yX9_ofTrack, cX9_ofTrack, 3, (some .int)),
  (yX9_toldOfFile, cX9_toldOfFile, 7, (some .int)),
  (yX9_ofFile, cX9_ofFile, 4, (some .int)),
  (yX9_sample, cX9_sample, 6, (some .float)),
  (yX9_isHeard, cX9_isHeard, 3, (some .boolean)),
  (yX9_play, cX9_play, 5, (some .double)),
  (yX9_told, cX9_told, 5, (some .int)),
  (yX9_many, cX9_many, 2, (some .int)),
  (yX9_wouldTake, cX9_wouldTake, 7, (some .double)),
  (yX9_wouldMend, cX9_wouldMend, 5, (some .int)),
  (yX9_add, cX9_add, 4, (some .long)),
  (yX9_digest, cX9_digest, 6, (some .long)),
  (yJ6_bitCount_0f7a4, cJ6_bitCount_0f7a4, 1, (some .int)),
  (yJ6_numberOfTrailingZeros_0f7a4, cJ6_numberOfTrailingZeros_0f7a4, 2, (some .int)),
  (yJ9_abs_0f7a4, cJ9_abs_0f7a4, 1, (some .int)),
  (yJ9_max_7cf53, cJ9_max_7cf53, 2, (some .int)),
  (yJ9_min_7cf53, cJ9_min_7cf53, 2, (some .int)),
  (yJxa1e45_init_da8c8, cJxa1e45_init_da8c8, 1, (none)),
  (yJxc12de_init_da8c8, cJxc12de_init_da8c8, 1, (none)),
  (yJx4a65c_init_da8c8, cJx4a65c_init_da8c8, 1, (none)),
  (yJx4a65c_size_8abf5, cJx4a65c_size_8abf5, 1, (some .int)),
  (yJx4a65c_iterator_32c93, cJx4a65c_iterator_32c93, 1, (some (.object "java/util/Iterator"))),
  (yJx35411_init_45d68, cJx35411_init_45d68, 2, (none)),
  (yJx35411_hasNext_aae02, cJx35411_hasNext_aae02, 1, (some .boolean)),
  (yL_session, cL_session, 3, (some .int)),
  (yL_track, cL_track, 5, (some .int)),
  (yL_write, cL_write, 6, (some .int)),
  (yL_starve, cL_starve, 4, (some .int)),
  (yL_close, cL_close, 4, (some .int)),
  (yL_end, cL_end, 3, (some .int)),
  (yL_file, cL_file, 6, (some .int)),
  (yL_scratch, cL_scratch, 7, (some .int)),
  (yL_rot, cL_rot, 4, (some .int)),
  (yL_read, cL_read, 4, (some .int)),
  (yL_seek, cL_seek, 4, (some .int)),
  (yL_angle, cL_angle, 4, (some .int)),
  (yL_ofSector, cL_ofSector, 5, (some .int)),
  (yL_nibbles, cL_nibbles, 5, (some .int)),
  (yL_place, cL_place, 5, (some .int)),
  (yL_ofTrack, cL_ofTrack, 5, (some .int)),
  (yL_ofFile, cL_ofFile, 6, (some .int)),
  (yL_play, cL_play, 4, (some .int)),
  (yL_many, cL_many, 4, (some .int)),
  (yL_wouldTake, cL_wouldTake, 5, (some .int)),
  (yL_wouldMend, cL_wouldMend, 5, (some .int)),
  (yL_law, cL_law, 10, (some .boolean))]
def pA : List FieldType := [.int, .long, .double, .array .int, .object RX5, .object RX7]
def pL : List (String × String × String × Nat) := [(RX1, "LINE_SETS", "[I", 1), (RX6, "ZONE_SECTORS", "[I", 2), (RX6, "ZONE_FIRSTS", "[I", 3), (RX4, "WORDS", "[I", 4), (RJx4a65c, "DEFAULTCAPACITY_EMPTY_ELEMENTDATA", "[Ljava/lang/Object;", 5)]
def pHL : List (List (Nat × Nat × Nat × Nat)) := [[(0, 8, 11, 13)], [(0, 10, 13, 19), (0, 10, 17, 13)], [(0, 11, 14, 25), (0, 11, 18, 19), (0, 11, 22, 13)], [(0, 9, 12, 25), (0, 9, 15, 13)], [(0, 9, 12, 25), (0, 9, 15, 13)], [(0, 8, 11, 13)], [(0, 12, 15, 25), (0, 12, 19, 19), (0, 12, 23, 13)], [(0, 14, 17, 19)], [(0, 9, 12, 19)], [(0, 9, 12, 25), (0, 9, 15, 13)], [(0, 8, 11, 25)], [(0, 8, 11, 25)], [(0, 10, 13, 25), (0, 10, 17, 19)], [(0, 9, 12, 25)], [(0, 10, 13, 25)], [(0, 10, 13, 25), (0, 10, 17, 19)], [(0, 12, 15, 25), (0, 12, 19, 19)], [(0, 8, 11, 25), (0, 8, 14, 19)], [(0, 9, 12, 19)], [(0, 9, 12, 25), (0, 9, 16, 19)], [(0, 10, 13, 25), (0, 10, 17, 19)]]
def pH : Nat → List (Nat × Nat × Nat × Nat) := fun k => if k < 171 then [] else pHL.getD (k - 171) []
def pS : List (Nat × String) := [(301, "not 0 to 12"), (358, "no such TRACK"), (270, "not 0 to 7"), (354, "no such SECTOR"), (236, "not 0 to 8"), (356, "no such FILE"), (272, "no such SESSION"), (274, "not 0 to 2"), (69, "no SESSION can be opened"), (76, "no such mode, or not 1 to 40 SECTORS"), (79, "no TRACK can be opened"), (97, "not nine NIBBLES"), (103, "the TRACK is CLOSED or full"), (115, "the TRACK is CLOSED or full, or there is no CALIBRATION"), (123, "the TRACK is CLOSED"), (131, "no SESSION can be CLOSED"), (140, "no such SECTOR, or not 1 to 20 SECTORS"), (149, "the FILE is not in one DATA TRACK whole"), (151, "no SESSION is open"), (156, "no such turns"), (158, "no such angles"), (176, "not 0 to 999"), (191, "the TRAY is open"), (248, "no such PLACE"), (285, "not of a SOUND TRACK"), (303, "not 1 to 40 SECTORS"), (314, "no set of PLACES")]
def pE : List Cond := [.castable "java/lang/IllegalStateException" "java/lang/IllegalStateException", .castable "java/lang/IllegalArgumentException" "java/lang/IllegalArgumentException", .castable "java/lang/IndexOutOfBoundsException" "java/lang/IndexOutOfBoundsException", .declares ⟨"java/lang/RuntimeException", "<init>", "(Ljava/lang/String;)V"⟩, .declares ⟨"java/lang/Exception", "<init>", "(Ljava/lang/String;)V"⟩, .declares ⟨"java/lang/Throwable", "<init>", "(Ljava/lang/String;)V"⟩]
theorem pE_moved {s U : State} (hW : s.WarmedH U.vm) (h : ∀ w ∈ pE, va_Nw w s) : ∀ w ∈ pE, va_Nw w U := by
  intro w hw
  have h0 := h w hw
  simp only [pE, List.mem_cons, List.not_mem_nil, or_false] at hw
  rcases hw with rfl | rfl | rfl | rfl | rfl | rfl
  · exact va_Nw.warmC hW h0
  · exact va_Nw.warmC hW h0
  · exact va_Nw.warmC hW h0
  · exact va_tabs rfl (rfl : (s.setVm U.vm).vm = U.vm) (by rw [Cond.declares_setVm hW.alike]; exact h0)
  · exact va_tabs rfl (rfl : (s.setVm U.vm).vm = U.vm) (by rw [Cond.declares_setVm hW.alike]; exact h0)
  · exact va_tabs rfl (rfl : (s.setVm U.vm).vm = U.vm) (by rw [Cond.declares_setVm hW.alike]; exact h0)
def pF : MethodName := ⟨"java/util/Iterator", "hasNext", "()Z"⟩
def pK : Nat → State → Heap → Prop := fun b0 U H => (vx_Zq Bundle.tN "UNASSIGNED_STACK" Bundle.steD (fun q => b0 ≤ q) U H ∧ vx_Zq Bundle.tN "SUPPRESSED_SENTINEL" Bundle.listD (fun q => b0 ≤ q) U H) ∧ (∀ q ∈ pS, ∃ sa : Nat, vk_R RX8 q.1 q.2 sa U) ∧
  va_Nc "java/lang/IllegalArgumentException" "java/lang/IndexOutOfBoundsException" U ∧ va_Nc "java/lang/IllegalStateException" "java/lang/IndexOutOfBoundsException" U ∧ va_Nc "java/lang/IllegalStateException" "java/lang/IllegalArgumentException" U ∧ (∀ w ∈ pE, va_Nw w U) ∧ va_Fw RJx35411 pF yJx35411_hasNext_aae02 U
def pP : mi_P := (pC, pT, pN, fun k => pM.getD k (⟨"", "", ""⟩, ⟨#[]⟩, 0, none), pA, 6, pL, pH, pK)
theorem pP_ok : mi_ok pP := ⟨fun _ h => good_of_word (List.mem_filter.mp h).2, pN_ok, fun b0 s U H hW h => ⟨⟨vx_Zq.moved hW.alike h.1.1, vx_Zq.moved hW.alike h.1.2⟩, fun q hq => (h.2.1 q hq).elim fun sa hs => ⟨sa, vk_R.warm hW hs⟩, va_Nc.moved hW.alike h.2.2.1, va_Nc.moved hW.alike h.2.2.2.1, va_Nc.moved hW.alike h.2.2.2.2.1, pE_moved hW h.2.2.2.2.2.1, va_Fw.moved (by decide) hW.alike h.2.2.2.2.2.2⟩, fun b0 U H H1 hq h => ⟨⟨vx_Zq.kept h.1.1 hq, vx_Zq.kept h.1.2 hq⟩, h.2⟩⟩
abbrev kX8_init : Nat := 0
abbrev kX8_session : Nat := 1
abbrev kX8_track : Nat := 2
abbrev kX8_write : Nat := 3
abbrev kX8_starve : Nat := 4
abbrev kX8_close : Nat := 5
abbrev kX8_end : Nat := 6
abbrev kX8_file : Nat := 7
abbrev kX8_scratch : Nat := 8
abbrev kX8_rot : Nat := 9
abbrev kX8_tray : Nat := 10
abbrev kX8_push : Nat := 11
abbrev kX8_read : Nat := 12
abbrev kX8_seek : Nat := 13
abbrev kX8_clock : Nat := 14
abbrev kX8_angle : Nat := 15
abbrev kX8_ofSector : Nat := 16
abbrev kX8_nibbles : Nat := 17
abbrev kX8_place : Nat := 18
abbrev kX8_ofTrack : Nat := 19
abbrev kX8_ofFile : Nat := 20
abbrev kX8_play : Nat := 21
abbrev kX8_many : Nat := 22
abbrev kX8_wouldTake : Nat := 23
abbrev kX8_wouldMend : Nat := 24
abbrev kX8_digest : Nat := 25
abbrev kX8_digestTracks : Nat := 26
abbrev kX8_digestSectors : Nat := 27
abbrev kX8_digestFiles : Nat := 28
abbrev kX8_isSector : Nat := 29
abbrev kX8_checkSector : Nat := 30
abbrev kX8_checkFile : Nat := 31
abbrev kX8_trackAt : Nat := 32
abbrev kX8_left : Nat := 33
abbrev kX8_trackOf : Nat := 34
abbrev kX8_hasOpenTrack : Nat := 35
abbrev kX8_isGood : Nat := 36
abbrev kX8_goodFrom : Nat := 37
abbrev kX8_writtenOf : Nat := 38
abbrev kX8_sampleBetween : Nat := 39
abbrev kX0_init : Nat := 40
abbrev kX1_init : Nat := 41
abbrev kX1_valueAt : Nat := 42
abbrev kX1_isErased : Nat := 43
abbrev kX1_put : Nat := 44
abbrev kX1_erase : Nat := 45
abbrev kX1_copyFrom : Nat := 46
abbrev kX1_spread : Nat := 47
abbrev kX1_gathered : Nat := 48
abbrev kX1_mend : Nat := 49
abbrev kX1_isEven : Nat := 50
abbrev kX1_fillErased : Nat := 51
abbrev kX1_onlyOddOf : Nat := 52
abbrev kX1_parityOf : Nat := 53
abbrev kX1_placeOf : Nat := 54
abbrev kX2_init : Nat := 55
abbrev kX2_seekTime : Nat := 56
abbrev kX2_restOfTurn : Nat := 57
abbrev kX2_clockBehind : Nat := 58
abbrev kX2_headBehind : Nat := 59
abbrev kX2_passOver : Nat := 60
abbrev kX2_timeOver : Nat := 61
abbrev kX3_init : Nat := 62
abbrev kX3_tell : Nat := 63
abbrev kX3_tellerOf : Nat := 64
abbrev kX3_firstOf : Nat := 65
abbrev kX3_lengthOf : Nat := 66
abbrev kX4_init : Nat := 67
abbrev kX4_mark : Nat := 68
abbrev kX4_isJoined : Nat := 69
abbrev kX4_dsvBehind : Nat := 70
abbrev kX4_putBits : Nat := 71
abbrev kX5_init : Nat := 72
abbrev kX5_fillWith : Nat := 73
abbrev kX5_eraseColumn : Nat := 74
abbrev kX5_makeWrong : Nat := 75
abbrev kX5_raw : Nat := 76
abbrev kX5_sample : Nat := 77
abbrev kX5_stateWithout : Nat := 78
abbrev kX5_reckon : Nat := 79
abbrev kX5_judged : Nat := 80
abbrev kX5_mixed : Nat := 81
abbrev kX5_sumOf : Nat := 82
abbrev kX5_nibbleOf : Nat := 83
abbrev kX6_zoneOf : Nat := 84
abbrev kX6_turnOf : Nat := 85
abbrev kX6_angleOf : Nat := 86
abbrev kX6_speedOf : Nat := 87
abbrev kX6_positionOf : Nat := 88
abbrev kX7_init : Nat := 89
abbrev kX7_reserve : Nat := 90
abbrev kX7_behind : Nat := 91
abbrev kX7_holds : Nat := 92
abbrev kX7_hasRoom : Nat := 93
abbrev kX7_takeNext : Nat := 94
abbrev kX7_giveBack : Nat := 95
abbrev kX9_init : Nat := 96
abbrev kX9_thrown : Nat := 97
abbrev kX9_refuse : Nat := 98
abbrev kX9_start : Nat := 99
abbrev kX9_isIn : Nat := 100
abbrev kX9_one : Nat := 101
abbrev kX9_isNoTrack : Nat := 102
abbrev kX9_isNoSector : Nat := 103
abbrev kX9_mask : Nat := 104
abbrev kX9_placeOf : Nat := 105
abbrev kX9_blockOf : Nat := 106
abbrev kX9_nibblesOf : Nat := 107
abbrev kX9_sumOf : Nat := 108
abbrev kX9_at : Nat := 109
abbrev kX9_parity : Nat := 110
abbrev kX9_fill : Nat := 111
abbrev kX9_mended : Nat := 112
abbrev kX9_worth : Nat := 113
abbrev kX9_worth_ : Nat := 114
abbrev kX9_isGood : Nat := 115
abbrev kX9_bit : Nat := 116
abbrev kX9_after : Nat := 117
abbrev kX9_marks : Nat := 118
abbrev kX9_session : Nat := 119
abbrev kX9_track : Nat := 120
abbrev kX9_isDone : Nat := 121
abbrev kX9_write : Nat := 122
abbrev kX9_starve : Nat := 123
abbrev kX9_close : Nat := 124
abbrev kX9_end : Nat := 125
abbrev kX9_isNoFile : Nat := 126
abbrev kX9_file : Nat := 127
abbrev kX9_turnOf : Nat := 128
abbrev kX9_angleOf : Nat := 129
abbrev kX9_scratch : Nat := 130
abbrev kX9_rot : Nat := 131
abbrev kX9_tray : Nat := 132
abbrev kX9_push : Nat := 133
abbrev kX9_seekFrom : Nat := 134
abbrev kX9_readOf : Nat := 135
abbrev kX9_behind : Nat := 136
abbrev kX9_read : Nat := 137
abbrev kX9_seek : Nat := 138
abbrev kX9_clock : Nat := 139
abbrev kX9_angle : Nat := 140
abbrev kX9_toldOfSector : Nat := 141
abbrev kX9_ofSector : Nat := 142
abbrev kX9_nibblesAt : Nat := 143
abbrev kX9_nibbles : Nat := 144
abbrev kX9_place : Nat := 145
abbrev kX9_toldOfTrack : Nat := 146
abbrev kX9_ofTrack : Nat := 147
abbrev kX9_toldOfFile : Nat := 148
abbrev kX9_ofFile : Nat := 149
abbrev kX9_sample : Nat := 150
abbrev kX9_isHeard : Nat := 151
abbrev kX9_play : Nat := 152
abbrev kX9_told : Nat := 153
abbrev kX9_many : Nat := 154
abbrev kX9_wouldTake : Nat := 155
abbrev kX9_wouldMend : Nat := 156
abbrev kX9_add : Nat := 157
abbrev kX9_digest : Nat := 158
abbrev kJ6_bitCount_0f7a4 : Nat := 159
abbrev kJ6_numberOfTrailingZeros_0f7a4 : Nat := 160
abbrev kJ9_abs_0f7a4 : Nat := 161
abbrev kJ9_max_7cf53 : Nat := 162
abbrev kJ9_min_7cf53 : Nat := 163
abbrev kJxa1e45_init_da8c8 : Nat := 164
abbrev kJxc12de_init_da8c8 : Nat := 165
abbrev kJx4a65c_init_da8c8 : Nat := 166
abbrev kJx4a65c_size_8abf5 : Nat := 167
abbrev kJx4a65c_iterator_32c93 : Nat := 168
abbrev kJx35411_init_45d68 : Nat := 169
abbrev kJx35411_hasNext_aae02 : Nat := 170
abbrev kL_session : Nat := 171
abbrev kL_track : Nat := 172
abbrev kL_write : Nat := 173
abbrev kL_starve : Nat := 174
abbrev kL_close : Nat := 175
abbrev kL_end : Nat := 176
abbrev kL_file : Nat := 177
abbrev kL_scratch : Nat := 178
abbrev kL_rot : Nat := 179
abbrev kL_read : Nat := 180
abbrev kL_seek : Nat := 181
abbrev kL_angle : Nat := 182
abbrev kL_ofSector : Nat := 183
abbrev kL_nibbles : Nat := 184
abbrev kL_place : Nat := 185
abbrev kL_ofTrack : Nat := 186
abbrev kL_ofFile : Nat := 187
abbrev kL_play : Nat := 188
abbrev kL_many : Nat := 189
abbrev kL_wouldTake : Nat := 190
abbrev kL_wouldMend : Nat := 191
abbrev kL_law : Nat := 192
theorem inX8 : ∀ w ∈ u_ws RX8 TX8 10, w ∈ pT := by
  intro w hw
  have h : (u_ws RX8 TX8 10).all (fun w => lw_tbl.contains w && goodWord w) = true := by decide +kernel
  have h2 := List.all_eq_true.mp h w hw
  rw [Bool.and_eq_true] at h2
  exact List.mem_filter.mpr ⟨List.contains_iff_mem.mp h2.1, h2.2⟩
theorem cfX8 : mi_cf pP 0 RX8 TX8 10 tyX8 := ⟨rfl, inX8, tyX8_ok, nmX8⟩
theorem inX0 : ∀ w ∈ u_ws RX0 TX0 2, w ∈ pT := by
  intro w hw
  have h : (u_ws RX0 TX0 2).all (fun w => lw_tbl.contains w && goodWord w) = true := by decide +kernel
  have h2 := List.all_eq_true.mp h w hw
  rw [Bool.and_eq_true] at h2
  exact List.mem_filter.mpr ⟨List.contains_iff_mem.mp h2.1, h2.2⟩
theorem cfX0 : mi_cf pP 1 RX0 TX0 2 tyX0 := ⟨rfl, inX0, tyX0_ok, nmX0⟩
theorem inX1 : ∀ w ∈ u_ws RX1 TX1 2, w ∈ pT := by
  intro w hw
  have h : (u_ws RX1 TX1 2).all (fun w => lw_tbl.contains w && goodWord w) = true := by decide +kernel
  have h2 := List.all_eq_true.mp h w hw
  rw [Bool.and_eq_true] at h2
  exact List.mem_filter.mpr ⟨List.contains_iff_mem.mp h2.1, h2.2⟩
theorem cfX1 : mi_cf pP 2 RX1 TX1 2 tyX1 := ⟨rfl, inX1, tyX1_ok, nmX1⟩
theorem inX2 : ∀ w ∈ u_ws RX2 TX2 5, w ∈ pT := by
  intro w hw
  have h : (u_ws RX2 TX2 5).all (fun w => lw_tbl.contains w && goodWord w) = true := by decide +kernel
  have h2 := List.all_eq_true.mp h w hw
  rw [Bool.and_eq_true] at h2
  exact List.mem_filter.mpr ⟨List.contains_iff_mem.mp h2.1, h2.2⟩
theorem cfX2 : mi_cf pP 3 RX2 TX2 5 tyX2 := ⟨rfl, inX2, tyX2_ok, nmX2⟩
theorem inX3 : ∀ w ∈ u_ws RX3 TX3 2, w ∈ pT := by
  intro w hw
  have h : (u_ws RX3 TX3 2).all (fun w => lw_tbl.contains w && goodWord w) = true := by decide +kernel
  have h2 := List.all_eq_true.mp h w hw
  rw [Bool.and_eq_true] at h2
  exact List.mem_filter.mpr ⟨List.contains_iff_mem.mp h2.1, h2.2⟩
theorem cfX3 : mi_cf pP 4 RX3 TX3 2 tyX3 := ⟨rfl, inX3, tyX3_ok, nmX3⟩
theorem inX4 : ∀ w ∈ u_ws RX4 TX4 4, w ∈ pT := by
  intro w hw
  have h : (u_ws RX4 TX4 4).all (fun w => lw_tbl.contains w && goodWord w) = true := by decide +kernel
  have h2 := List.all_eq_true.mp h w hw
  rw [Bool.and_eq_true] at h2
  exact List.mem_filter.mpr ⟨List.contains_iff_mem.mp h2.1, h2.2⟩
theorem cfX4 : mi_cf pP 5 RX4 TX4 4 tyX4 := ⟨rfl, inX4, tyX4_ok, nmX4⟩
theorem inX5 : ∀ w ∈ u_ws RX5 TX5 10, w ∈ pT := by
  intro w hw
  have h : (u_ws RX5 TX5 10).all (fun w => lw_tbl.contains w && goodWord w) = true := by decide +kernel
  have h2 := List.all_eq_true.mp h w hw
  rw [Bool.and_eq_true] at h2
  exact List.mem_filter.mpr ⟨List.contains_iff_mem.mp h2.1, h2.2⟩
theorem cfX5 : mi_cf pP 6 RX5 TX5 10 tyX5 := ⟨rfl, inX5, tyX5_ok, nmX5⟩
theorem inX7 : ∀ w ∈ u_ws RX7 TX7 7, w ∈ pT := by
  intro w hw
  have h : (u_ws RX7 TX7 7).all (fun w => lw_tbl.contains w && goodWord w) = true := by decide +kernel
  have h2 := List.all_eq_true.mp h w hw
  rw [Bool.and_eq_true] at h2
  exact List.mem_filter.mpr ⟨List.contains_iff_mem.mp h2.1, h2.2⟩
theorem cfX7 : mi_cf pP 8 RX7 TX7 7 tyX7 := ⟨rfl, inX7, tyX7_ok, nmX7⟩
theorem inX9 : ∀ w ∈ u_ws RX9 TX9 15, w ∈ pT := by
  intro w hw
  have h : (u_ws RX9 TX9 15).all (fun w => lw_tbl.contains w && goodWord w) = true := by decide +kernel
  have h2 := List.all_eq_true.mp h w hw
  rw [Bool.and_eq_true] at h2
  exact List.mem_filter.mpr ⟨List.contains_iff_mem.mp h2.1, h2.2⟩
theorem cfX9 : mi_cf pP 9 RX9 TX9 15 tyX9 := ⟨rfl, inX9, tyX9_ok, nmX9⟩
theorem inJx4a65c : ∀ w ∈ u_ws RJx4a65c TJx4a65c 3, w ∈ pT := by
  intro w hw
  have h : (u_ws RJx4a65c TJx4a65c 3).all (fun w => lw_tbl.contains w && goodWord w) = true := by decide +kernel
  have h2 := List.all_eq_true.mp h w hw
  rw [Bool.and_eq_true] at h2
  exact List.mem_filter.mpr ⟨List.contains_iff_mem.mp h2.1, h2.2⟩
theorem cfJx4a65c : mi_cf pP 13 RJx4a65c TJx4a65c 3 tyJx4a65c := ⟨rfl, inJx4a65c, tyJx4a65c_ok, nmJx4a65c⟩
theorem inJx35411 : ∀ w ∈ u_ws RJx35411 TJx35411 4, w ∈ pT := by
  intro w hw
  have h : (u_ws RJx35411 TJx35411 4).all (fun w => lw_tbl.contains w && goodWord w) = true := by decide +kernel
  have h2 := List.all_eq_true.mp h w hw
  rw [Bool.and_eq_true] at h2
  exact List.mem_filter.mpr ⟨List.contains_iff_mem.mp h2.1, h2.2⟩
theorem cfJx35411 : mi_cf pP 14 RJx35411 TJx35411 4 tyJx35411 := ⟨rfl, inJx35411, tyJx35411_ok, nmJx35411⟩
theorem fd_RX3_11 : mi_fd pP RX3 11 4 0 true (tyX3 0) := ⟨RX3, TX3, 2, tyX3, cfX3, by decide, rfl, rfl, Or.inl (pT_mem 87 (by decide +kernel) (by decide +kernel)), fun _ => ⟨rfl, pT_mem 87 (by decide +kernel) (by decide +kernel)⟩⟩
theorem fg_RX3_11 : mi_fg pP RX3 11 4 0 := ⟨RX3, TX3, 2, tyX3, cfX3, by decide, Or.inl (pT_mem 87 (by decide +kernel) (by decide +kernel))⟩
theorem fd_RX3_16 : mi_fd pP RX3 16 4 1 true (tyX3 1) := ⟨RX3, TX3, 2, tyX3, cfX3, by decide, rfl, rfl, Or.inl (pT_mem 88 (by decide +kernel) (by decide +kernel)), fun _ => ⟨rfl, pT_mem 88 (by decide +kernel) (by decide +kernel)⟩⟩
theorem fg_RX3_16 : mi_fg pP RX3 16 4 1 := ⟨RX3, TX3, 2, tyX3, cfX3, by decide, Or.inl (pT_mem 88 (by decide +kernel) (by decide +kernel))⟩
theorem fd_RX2_9 : mi_fd pP RX2 9 3 0 false (tyX2 0) := ⟨RX2, TX2, 5, tyX2, cfX2, by decide, rfl, rfl, Or.inl (pT_mem 101 (by decide +kernel) (by decide +kernel)), fun q => by cases q⟩
theorem fg_RX2_9 : mi_fg pP RX2 9 3 0 := ⟨RX2, TX2, 5, tyX2, cfX2, by decide, Or.inl (pT_mem 101 (by decide +kernel) (by decide +kernel))⟩
theorem fd_RX8_199 : mi_fd pP RX8 199 3 0 false (tyX2 0) := ⟨RX2, TX2, 5, tyX2, cfX2, by decide, rfl, rfl, Or.inr ⟨"PitHouse", by decide +kernel⟩, fun q => by cases q⟩
theorem fg_RX8_199 : mi_fg pP RX8 199 3 0 := ⟨RX2, TX2, 5, tyX2, cfX2, by decide, Or.inr ⟨"PitHouse", by decide +kernel⟩⟩
theorem fd_RX2_15 : mi_fd pP RX2 15 3 1 false (tyX2 1) := ⟨RX2, TX2, 5, tyX2, cfX2, by decide, rfl, rfl, Or.inl (pT_mem 103 (by decide +kernel) (by decide +kernel)), fun q => by cases q⟩
theorem fg_RX2_15 : mi_fg pP RX2 15 3 1 := ⟨RX2, TX2, 5, tyX2, cfX2, by decide, Or.inl (pT_mem 103 (by decide +kernel) (by decide +kernel))⟩
theorem fd_RX8_206 : mi_fd pP RX8 206 3 1 false (tyX2 1) := ⟨RX2, TX2, 5, tyX2, cfX2, by decide, rfl, rfl, Or.inr ⟨"PitHouse", by decide +kernel⟩, fun q => by cases q⟩
theorem fg_RX8_206 : mi_fg pP RX8 206 3 1 := ⟨RX2, TX2, 5, tyX2, cfX2, by decide, Or.inr ⟨"PitHouse", by decide +kernel⟩⟩
theorem fd_RX2_19 : mi_fd pP RX2 19 3 2 false (tyX2 2) := ⟨RX2, TX2, 5, tyX2, cfX2, by decide, rfl, rfl, Or.inl (pT_mem 105 (by decide +kernel) (by decide +kernel)), fun q => by cases q⟩
theorem fg_RX2_19 : mi_fg pP RX2 19 3 2 := ⟨RX2, TX2, 5, tyX2, cfX2, by decide, Or.inl (pT_mem 105 (by decide +kernel) (by decide +kernel))⟩
theorem fd_RX8_298 : mi_fd pP RX8 298 3 2 false (tyX2 2) := ⟨RX2, TX2, 5, tyX2, cfX2, by decide, rfl, rfl, Or.inr ⟨"PitHouse", by decide +kernel⟩, fun q => by cases q⟩
theorem fg_RX8_298 : mi_fg pP RX8 298 3 2 := ⟨RX2, TX2, 5, tyX2, cfX2, by decide, Or.inr ⟨"PitHouse", by decide +kernel⟩⟩
theorem fd_RX2_22 : mi_fd pP RX2 22 3 3 false (tyX2 3) := ⟨RX2, TX2, 5, tyX2, cfX2, by decide, rfl, rfl, Or.inl (pT_mem 107 (by decide +kernel) (by decide +kernel)), fun q => by cases q⟩
theorem fg_RX2_22 : mi_fg pP RX2 22 3 3 := ⟨RX2, TX2, 5, tyX2, cfX2, by decide, Or.inl (pT_mem 107 (by decide +kernel) (by decide +kernel))⟩
theorem fd_RX8_182 : mi_fd pP RX8 182 3 3 false (tyX2 3) := ⟨RX2, TX2, 5, tyX2, cfX2, by decide, rfl, rfl, Or.inr ⟨"PitHouse", by decide +kernel⟩, fun q => by cases q⟩
theorem fg_RX8_182 : mi_fg pP RX8 182 3 3 := ⟨RX2, TX2, 5, tyX2, cfX2, by decide, Or.inr ⟨"PitHouse", by decide +kernel⟩⟩
theorem fd_RX2_26 : mi_fd pP RX2 26 3 4 false (tyX2 4) := ⟨RX2, TX2, 5, tyX2, cfX2, by decide, rfl, rfl, Or.inl (pT_mem 109 (by decide +kernel) (by decide +kernel)), fun q => by cases q⟩
theorem fg_RX2_26 : mi_fg pP RX2 26 3 4 := ⟨RX2, TX2, 5, tyX2, cfX2, by decide, Or.inl (pT_mem 109 (by decide +kernel) (by decide +kernel))⟩
theorem fd_RX8_185 : mi_fd pP RX8 185 3 4 false (tyX2 4) := ⟨RX2, TX2, 5, tyX2, cfX2, by decide, rfl, rfl, Or.inr ⟨"PitHouse", by decide +kernel⟩, fun q => by cases q⟩
theorem fg_RX8_185 : mi_fg pP RX8 185 3 4 := ⟨RX2, TX2, 5, tyX2, cfX2, by decide, Or.inr ⟨"PitHouse", by decide +kernel⟩⟩
theorem fd_RX1_9 : mi_fd pP RX1 9 2 0 false (tyX1 0) := ⟨RX1, TX1, 2, tyX1, cfX1, by decide, rfl, rfl, Or.inl (pT_mem 134 (by decide +kernel) (by decide +kernel)), fun q => by cases q⟩
theorem fg_RX1_9 : mi_fg pP RX1 9 2 0 := ⟨RX1, TX1, 2, tyX1, cfX1, by decide, Or.inl (pT_mem 134 (by decide +kernel) (by decide +kernel))⟩
theorem fd_RX1_15 : mi_fd pP RX1 15 2 1 false (tyX1 1) := ⟨RX1, TX1, 2, tyX1, cfX1, by decide, rfl, rfl, Or.inl (pT_mem 135 (by decide +kernel) (by decide +kernel)), fun q => by cases q⟩
theorem fg_RX1_15 : mi_fg pP RX1 15 2 1 := ⟨RX1, TX1, 2, tyX1, cfX1, by decide, Or.inl (pT_mem 135 (by decide +kernel) (by decide +kernel))⟩
theorem fd_RX5_118 : mi_fd pP RX5 118 2 1 false (tyX1 1) := ⟨RX1, TX1, 2, tyX1, cfX1, by decide, rfl, rfl, Or.inr ⟨"PitHouse", by decide +kernel⟩, fun q => by cases q⟩
theorem fg_RX5_118 : mi_fg pP RX5 118 2 1 := ⟨RX1, TX1, 2, tyX1, cfX1, by decide, Or.inr ⟨"PitHouse", by decide +kernel⟩⟩
theorem fd_RX8_214 : mi_fd pP RX8 214 2 1 false (tyX1 1) := ⟨RX1, TX1, 2, tyX1, cfX1, by decide, rfl, rfl, Or.inr ⟨"PitHouse", by decide +kernel⟩, fun q => by cases q⟩
theorem fg_RX8_214 : mi_fg pP RX8 214 2 1 := ⟨RX1, TX1, 2, tyX1, cfX1, by decide, Or.inr ⟨"PitHouse", by decide +kernel⟩⟩
theorem fd_RX4_7 : mi_fd pP RX4 7 5 0 false (tyX4 0) := ⟨RX4, TX4, 4, tyX4, cfX4, by decide, rfl, rfl, Or.inl (pT_mem 149 (by decide +kernel) (by decide +kernel)), fun q => by cases q⟩
theorem fg_RX4_7 : mi_fg pP RX4 7 5 0 := ⟨RX4, TX4, 4, tyX4, cfX4, by decide, Or.inl (pT_mem 149 (by decide +kernel) (by decide +kernel))⟩
theorem fd_RX4_13 : mi_fd pP RX4 13 5 1 false (tyX4 1) := ⟨RX4, TX4, 4, tyX4, cfX4, by decide, rfl, rfl, Or.inl (pT_mem 150 (by decide +kernel) (by decide +kernel)), fun q => by cases q⟩
theorem fg_RX4_13 : mi_fg pP RX4 13 5 1 := ⟨RX4, TX4, 4, tyX4, cfX4, by decide, Or.inl (pT_mem 150 (by decide +kernel) (by decide +kernel))⟩
theorem fd_RX5_116 : mi_fd pP RX5 116 5 1 false (tyX4 1) := ⟨RX4, TX4, 4, tyX4, cfX4, by decide, rfl, rfl, Or.inr ⟨"PitHouse", by decide +kernel⟩, fun q => by cases q⟩
theorem fg_RX5_116 : mi_fg pP RX5 116 5 1 := ⟨RX4, TX4, 4, tyX4, cfX4, by decide, Or.inr ⟨"PitHouse", by decide +kernel⟩⟩
theorem fd_RX4_16 : mi_fd pP RX4 16 5 2 false (tyX4 2) := ⟨RX4, TX4, 4, tyX4, cfX4, by decide, rfl, rfl, Or.inl (pT_mem 152 (by decide +kernel) (by decide +kernel)), fun q => by cases q⟩
theorem fg_RX4_16 : mi_fg pP RX4 16 5 2 := ⟨RX4, TX4, 4, tyX4, cfX4, by decide, Or.inl (pT_mem 152 (by decide +kernel) (by decide +kernel))⟩
theorem fd_RX5_115 : mi_fd pP RX5 115 5 2 false (tyX4 2) := ⟨RX4, TX4, 4, tyX4, cfX4, by decide, rfl, rfl, Or.inr ⟨"PitHouse", by decide +kernel⟩, fun q => by cases q⟩
theorem fg_RX5_115 : mi_fg pP RX5 115 5 2 := ⟨RX4, TX4, 4, tyX4, cfX4, by decide, Or.inr ⟨"PitHouse", by decide +kernel⟩⟩
theorem fd_RX4_19 : mi_fd pP RX4 19 5 3 false (tyX4 3) := ⟨RX4, TX4, 4, tyX4, cfX4, by decide, rfl, rfl, Or.inl (pT_mem 154 (by decide +kernel) (by decide +kernel)), fun q => by cases q⟩
theorem fg_RX4_19 : mi_fg pP RX4 19 5 3 := ⟨RX4, TX4, 4, tyX4, cfX4, by decide, Or.inl (pT_mem 154 (by decide +kernel) (by decide +kernel))⟩
theorem fd_RX5_117 : mi_fd pP RX5 117 5 3 false (tyX4 3) := ⟨RX4, TX4, 4, tyX4, cfX4, by decide, rfl, rfl, Or.inr ⟨"PitHouse", by decide +kernel⟩, fun q => by cases q⟩
theorem fg_RX5_117 : mi_fg pP RX5 117 5 3 := ⟨RX4, TX4, 4, tyX4, cfX4, by decide, Or.inr ⟨"PitHouse", by decide +kernel⟩⟩
theorem fd_RX0_10 : mi_fd pP RX0 10 1 0 true (tyX0 0) := ⟨RX0, TX0, 2, tyX0, cfX0, by decide, rfl, rfl, Or.inl (pT_mem 165 (by decide +kernel) (by decide +kernel)), fun _ => ⟨rfl, pT_mem 165 (by decide +kernel) (by decide +kernel)⟩⟩
theorem fg_RX0_10 : mi_fg pP RX0 10 1 0 := ⟨RX0, TX0, 2, tyX0, cfX0, by decide, Or.inl (pT_mem 165 (by decide +kernel) (by decide +kernel))⟩
theorem fg_RX5_101 : mi_fg pP RX5 101 1 0 := ⟨RX0, TX0, 2, tyX0, cfX0, by decide, Or.inr ⟨"PitHouse", by decide +kernel⟩⟩
theorem fg_RX8_316 : mi_fg pP RX8 316 1 0 := ⟨RX0, TX0, 2, tyX0, cfX0, by decide, Or.inr ⟨"PitHouse", by decide +kernel⟩⟩
theorem fd_RX0_19 : mi_fd pP RX0 19 1 1 true (tyX0 1) := ⟨RX0, TX0, 2, tyX0, cfX0, by decide, rfl, rfl, Or.inl (pT_mem 168 (by decide +kernel) (by decide +kernel)), fun _ => ⟨rfl, pT_mem 168 (by decide +kernel) (by decide +kernel)⟩⟩
theorem fg_RX0_19 : mi_fg pP RX0 19 1 1 := ⟨RX0, TX0, 2, tyX0, cfX0, by decide, Or.inl (pT_mem 168 (by decide +kernel) (by decide +kernel))⟩
theorem fg_RX5_106 : mi_fg pP RX5 106 1 1 := ⟨RX0, TX0, 2, tyX0, cfX0, by decide, Or.inr ⟨"PitHouse", by decide +kernel⟩⟩
theorem fd_RX5_47 : mi_fd pP RX5 47 6 0 true (tyX5 0) := ⟨RX5, TX5, 10, tyX5, cfX5, by decide, rfl, rfl, Or.inl (pT_mem 183 (by decide +kernel) (by decide +kernel)), fun _ => ⟨rfl, pT_mem 183 (by decide +kernel) (by decide +kernel)⟩⟩
theorem fg_RX5_47 : mi_fg pP RX5 47 6 0 := ⟨RX5, TX5, 10, tyX5, cfX5, by decide, Or.inl (pT_mem 183 (by decide +kernel) (by decide +kernel))⟩
theorem fd_RX5_12 : mi_fd pP RX5 12 6 1 true (tyX5 1) := ⟨RX5, TX5, 10, tyX5, cfX5, by decide, rfl, rfl, Or.inl (pT_mem 184 (by decide +kernel) (by decide +kernel)), fun _ => ⟨rfl, pT_mem 184 (by decide +kernel) (by decide +kernel)⟩⟩
theorem fg_RX5_12 : mi_fg pP RX5 12 6 1 := ⟨RX5, TX5, 10, tyX5, cfX5, by decide, Or.inl (pT_mem 184 (by decide +kernel) (by decide +kernel))⟩
theorem fg_RX8_210 : mi_fg pP RX8 210 6 1 := ⟨RX5, TX5, 10, tyX5, cfX5, by decide, Or.inr ⟨"PitHouse", by decide +kernel⟩⟩
theorem fd_RX5_18 : mi_fd pP RX5 18 6 2 false (tyX5 2) := ⟨RX5, TX5, 10, tyX5, cfX5, by decide, rfl, rfl, Or.inl (pT_mem 186 (by decide +kernel) (by decide +kernel)), fun q => by cases q⟩
theorem fg_RX5_18 : mi_fg pP RX5 18 6 2 := ⟨RX5, TX5, 10, tyX5, cfX5, by decide, Or.inl (pT_mem 186 (by decide +kernel) (by decide +kernel))⟩
theorem fd_RX8_169 : mi_fd pP RX8 169 6 2 false (tyX5 2) := ⟨RX5, TX5, 10, tyX5, cfX5, by decide, rfl, rfl, Or.inr ⟨"PitHouse", by decide +kernel⟩, fun q => by cases q⟩
theorem fg_RX8_169 : mi_fg pP RX8 169 6 2 := ⟨RX5, TX5, 10, tyX5, cfX5, by decide, Or.inr ⟨"PitHouse", by decide +kernel⟩⟩
theorem fd_RX5_22 : mi_fd pP RX5 22 6 3 false (tyX5 3) := ⟨RX5, TX5, 10, tyX5, cfX5, by decide, rfl, rfl, Or.inl (pT_mem 188 (by decide +kernel) (by decide +kernel)), fun q => by cases q⟩
theorem fg_RX5_22 : mi_fg pP RX5 22 6 3 := ⟨RX5, TX5, 10, tyX5, cfX5, by decide, Or.inl (pT_mem 188 (by decide +kernel) (by decide +kernel))⟩
theorem fd_RX5_25 : mi_fd pP RX5 25 6 4 false (tyX5 4) := ⟨RX5, TX5, 10, tyX5, cfX5, by decide, rfl, rfl, Or.inl (pT_mem 189 (by decide +kernel) (by decide +kernel)), fun q => by cases q⟩
theorem fg_RX5_25 : mi_fg pP RX5 25 6 4 := ⟨RX5, TX5, 10, tyX5, cfX5, by decide, Or.inl (pT_mem 189 (by decide +kernel) (by decide +kernel))⟩
theorem fd_RX5_29 : mi_fd pP RX5 29 6 5 false (tyX5 5) := ⟨RX5, TX5, 10, tyX5, cfX5, by decide, rfl, rfl, Or.inl (pT_mem 190 (by decide +kernel) (by decide +kernel)), fun q => by cases q⟩
theorem fg_RX5_29 : mi_fg pP RX5 29 6 5 := ⟨RX5, TX5, 10, tyX5, cfX5, by decide, Or.inl (pT_mem 190 (by decide +kernel) (by decide +kernel))⟩
theorem fd_RX8_196 : mi_fd pP RX8 196 6 5 false (tyX5 5) := ⟨RX5, TX5, 10, tyX5, cfX5, by decide, rfl, rfl, Or.inr ⟨"PitHouse", by decide +kernel⟩, fun q => by cases q⟩
theorem fg_RX8_196 : mi_fg pP RX8 196 6 5 := ⟨RX5, TX5, 10, tyX5, cfX5, by decide, Or.inr ⟨"PitHouse", by decide +kernel⟩⟩
theorem fd_RX5_34 : mi_fd pP RX5 34 6 6 false (tyX5 6) := ⟨RX5, TX5, 10, tyX5, cfX5, by decide, rfl, rfl, Or.inl (pT_mem 192 (by decide +kernel) (by decide +kernel)), fun q => by cases q⟩
theorem fg_RX5_34 : mi_fg pP RX5 34 6 6 := ⟨RX5, TX5, 10, tyX5, cfX5, by decide, Or.inl (pT_mem 192 (by decide +kernel) (by decide +kernel))⟩
theorem fd_RX8_238 : mi_fd pP RX8 238 6 6 false (tyX5 6) := ⟨RX5, TX5, 10, tyX5, cfX5, by decide, rfl, rfl, Or.inr ⟨"PitHouse", by decide +kernel⟩, fun q => by cases q⟩
theorem fg_RX8_238 : mi_fg pP RX8 238 6 6 := ⟨RX5, TX5, 10, tyX5, cfX5, by decide, Or.inr ⟨"PitHouse", by decide +kernel⟩⟩
theorem fd_RX5_38 : mi_fd pP RX5 38 6 7 false (tyX5 7) := ⟨RX5, TX5, 10, tyX5, cfX5, by decide, rfl, rfl, Or.inl (pT_mem 194 (by decide +kernel) (by decide +kernel)), fun q => by cases q⟩
theorem fg_RX5_38 : mi_fg pP RX5 38 6 7 := ⟨RX5, TX5, 10, tyX5, cfX5, by decide, Or.inl (pT_mem 194 (by decide +kernel) (by decide +kernel))⟩
theorem fd_RX8_224 : mi_fd pP RX8 224 6 7 false (tyX5 7) := ⟨RX5, TX5, 10, tyX5, cfX5, by decide, rfl, rfl, Or.inr ⟨"PitHouse", by decide +kernel⟩, fun q => by cases q⟩
theorem fg_RX8_224 : mi_fg pP RX8 224 6 7 := ⟨RX5, TX5, 10, tyX5, cfX5, by decide, Or.inr ⟨"PitHouse", by decide +kernel⟩⟩
theorem fd_RX5_41 : mi_fd pP RX5 41 6 8 false (tyX5 8) := ⟨RX5, TX5, 10, tyX5, cfX5, by decide, rfl, rfl, Or.inl (pT_mem 196 (by decide +kernel) (by decide +kernel)), fun q => by cases q⟩
theorem fg_RX5_41 : mi_fg pP RX5 41 6 8 := ⟨RX5, TX5, 10, tyX5, cfX5, by decide, Or.inl (pT_mem 196 (by decide +kernel) (by decide +kernel))⟩
theorem fd_RX8_227 : mi_fd pP RX8 227 6 8 false (tyX5 8) := ⟨RX5, TX5, 10, tyX5, cfX5, by decide, rfl, rfl, Or.inr ⟨"PitHouse", by decide +kernel⟩, fun q => by cases q⟩
theorem fg_RX8_227 : mi_fg pP RX8 227 6 8 := ⟨RX5, TX5, 10, tyX5, cfX5, by decide, Or.inr ⟨"PitHouse", by decide +kernel⟩⟩
theorem fd_RX5_44 : mi_fd pP RX5 44 6 9 false (tyX5 9) := ⟨RX5, TX5, 10, tyX5, cfX5, by decide, rfl, rfl, Or.inl (pT_mem 198 (by decide +kernel) (by decide +kernel)), fun q => by cases q⟩
theorem fg_RX5_44 : mi_fg pP RX5 44 6 9 := ⟨RX5, TX5, 10, tyX5, cfX5, by decide, Or.inl (pT_mem 198 (by decide +kernel) (by decide +kernel))⟩
theorem fd_RX8_230 : mi_fd pP RX8 230 6 9 false (tyX5 9) := ⟨RX5, TX5, 10, tyX5, cfX5, by decide, rfl, rfl, Or.inr ⟨"PitHouse", by decide +kernel⟩, fun q => by cases q⟩
theorem fg_RX8_230 : mi_fg pP RX8 230 6 9 := ⟨RX5, TX5, 10, tyX5, cfX5, by decide, Or.inr ⟨"PitHouse", by decide +kernel⟩⟩
theorem fd_RX7_9 : mi_fd pP RX7 9 8 0 false (tyX7 0) := ⟨RX7, TX7, 7, tyX7, cfX7, by decide, rfl, rfl, Or.inl (pT_mem 226 (by decide +kernel) (by decide +kernel)), fun q => by cases q⟩
theorem fg_RX7_9 : mi_fg pP RX7 9 8 0 := ⟨RX7, TX7, 7, tyX7, cfX7, by decide, Or.inl (pT_mem 226 (by decide +kernel) (by decide +kernel))⟩
theorem fd_RX8_257 : mi_fd pP RX8 257 8 0 false (tyX7 0) := ⟨RX7, TX7, 7, tyX7, cfX7, by decide, rfl, rfl, Or.inr ⟨"PitHouse", by decide +kernel⟩, fun q => by cases q⟩
theorem fg_RX8_257 : mi_fg pP RX8 257 8 0 := ⟨RX7, TX7, 7, tyX7, cfX7, by decide, Or.inr ⟨"PitHouse", by decide +kernel⟩⟩
theorem fd_RX7_15 : mi_fd pP RX7 15 8 1 false (tyX7 1) := ⟨RX7, TX7, 7, tyX7, cfX7, by decide, rfl, rfl, Or.inl (pT_mem 228 (by decide +kernel) (by decide +kernel)), fun q => by cases q⟩
theorem fg_RX7_15 : mi_fg pP RX7 15 8 1 := ⟨RX7, TX7, 7, tyX7, cfX7, by decide, Or.inl (pT_mem 228 (by decide +kernel) (by decide +kernel))⟩
theorem fd_RX8_108 : mi_fd pP RX8 108 8 1 false (tyX7 1) := ⟨RX7, TX7, 7, tyX7, cfX7, by decide, rfl, rfl, Or.inr ⟨"PitHouse", by decide +kernel⟩, fun q => by cases q⟩
theorem fg_RX8_108 : mi_fg pP RX8 108 8 1 := ⟨RX7, TX7, 7, tyX7, cfX7, by decide, Or.inr ⟨"PitHouse", by decide +kernel⟩⟩
theorem fd_RX7_18 : mi_fd pP RX7 18 8 2 false (tyX7 2) := ⟨RX7, TX7, 7, tyX7, cfX7, by decide, rfl, rfl, Or.inl (pT_mem 230 (by decide +kernel) (by decide +kernel)), fun q => by cases q⟩
theorem fg_RX7_18 : mi_fg pP RX7 18 8 2 := ⟨RX7, TX7, 7, tyX7, cfX7, by decide, Or.inl (pT_mem 230 (by decide +kernel) (by decide +kernel))⟩
theorem fd_RX8_88 : mi_fd pP RX8 88 8 2 false (tyX7 2) := ⟨RX7, TX7, 7, tyX7, cfX7, by decide, rfl, rfl, Or.inr ⟨"PitHouse", by decide +kernel⟩, fun q => by cases q⟩
theorem fg_RX8_88 : mi_fg pP RX8 88 8 2 := ⟨RX7, TX7, 7, tyX7, cfX7, by decide, Or.inr ⟨"PitHouse", by decide +kernel⟩⟩
theorem fd_RX7_21 : mi_fd pP RX7 21 8 3 false (tyX7 3) := ⟨RX7, TX7, 7, tyX7, cfX7, by decide, rfl, rfl, Or.inl (pT_mem 232 (by decide +kernel) (by decide +kernel)), fun q => by cases q⟩
theorem fg_RX7_21 : mi_fg pP RX7 21 8 3 := ⟨RX7, TX7, 7, tyX7, cfX7, by decide, Or.inl (pT_mem 232 (by decide +kernel) (by decide +kernel))⟩
theorem fd_RX8_260 : mi_fd pP RX8 260 8 3 false (tyX7 3) := ⟨RX7, TX7, 7, tyX7, cfX7, by decide, rfl, rfl, Or.inr ⟨"PitHouse", by decide +kernel⟩, fun q => by cases q⟩
theorem fg_RX8_260 : mi_fg pP RX8 260 8 3 := ⟨RX7, TX7, 7, tyX7, cfX7, by decide, Or.inr ⟨"PitHouse", by decide +kernel⟩⟩
theorem fd_RX7_24 : mi_fd pP RX7 24 8 4 false (tyX7 4) := ⟨RX7, TX7, 7, tyX7, cfX7, by decide, rfl, rfl, Or.inl (pT_mem 234 (by decide +kernel) (by decide +kernel)), fun q => by cases q⟩
theorem fg_RX7_24 : mi_fg pP RX7 24 8 4 := ⟨RX7, TX7, 7, tyX7, cfX7, by decide, Or.inl (pT_mem 234 (by decide +kernel) (by decide +kernel))⟩
theorem fd_RX8_263 : mi_fd pP RX8 263 8 4 false (tyX7 4) := ⟨RX7, TX7, 7, tyX7, cfX7, by decide, rfl, rfl, Or.inr ⟨"PitHouse", by decide +kernel⟩, fun q => by cases q⟩
theorem fg_RX8_263 : mi_fg pP RX8 263 8 4 := ⟨RX7, TX7, 7, tyX7, cfX7, by decide, Or.inr ⟨"PitHouse", by decide +kernel⟩⟩
theorem fd_RX7_27 : mi_fd pP RX7 27 8 5 false (tyX7 5) := ⟨RX7, TX7, 7, tyX7, cfX7, by decide, rfl, rfl, Or.inl (pT_mem 236 (by decide +kernel) (by decide +kernel)), fun q => by cases q⟩
theorem fg_RX7_27 : mi_fg pP RX7 27 8 5 := ⟨RX7, TX7, 7, tyX7, cfX7, by decide, Or.inl (pT_mem 236 (by decide +kernel) (by decide +kernel))⟩
theorem fd_RX8_117 : mi_fd pP RX8 117 8 5 false (tyX7 5) := ⟨RX7, TX7, 7, tyX7, cfX7, by decide, rfl, rfl, Or.inr ⟨"PitHouse", by decide +kernel⟩, fun q => by cases q⟩
theorem fg_RX8_117 : mi_fg pP RX8 117 8 5 := ⟨RX7, TX7, 7, tyX7, cfX7, by decide, Or.inr ⟨"PitHouse", by decide +kernel⟩⟩
theorem fd_RX7_30 : mi_fd pP RX7 30 8 6 false (tyX7 6) := ⟨RX7, TX7, 7, tyX7, cfX7, by decide, rfl, rfl, Or.inl (pT_mem 238 (by decide +kernel) (by decide +kernel)), fun q => by cases q⟩
theorem fg_RX7_30 : mi_fg pP RX7 30 8 6 := ⟨RX7, TX7, 7, tyX7, cfX7, by decide, Or.inl (pT_mem 238 (by decide +kernel) (by decide +kernel))⟩
theorem fd_RX8_120 : mi_fd pP RX8 120 8 6 false (tyX7 6) := ⟨RX7, TX7, 7, tyX7, cfX7, by decide, rfl, rfl, Or.inr ⟨"PitHouse", by decide +kernel⟩, fun q => by cases q⟩
theorem fg_RX8_120 : mi_fg pP RX8 120 8 6 := ⟨RX7, TX7, 7, tyX7, cfX7, by decide, Or.inr ⟨"PitHouse", by decide +kernel⟩⟩
theorem fd_RX8_11 : mi_fd pP RX8 11 0 0 true (tyX8 0) := ⟨RX8, TX8, 10, tyX8, cfX8, by decide, rfl, rfl, Or.inl (pT_mem 255 (by decide +kernel) (by decide +kernel)), fun _ => ⟨rfl, pT_mem 255 (by decide +kernel) (by decide +kernel)⟩⟩
theorem fg_RX8_11 : mi_fg pP RX8 11 0 0 := ⟨RX8, TX8, 10, tyX8, cfX8, by decide, Or.inl (pT_mem 255 (by decide +kernel) (by decide +kernel))⟩
theorem fd_RX8_17 : mi_fd pP RX8 17 0 1 true (tyX8 1) := ⟨RX8, TX8, 10, tyX8, cfX8, by decide, rfl, rfl, Or.inl (pT_mem 256 (by decide +kernel) (by decide +kernel)), fun _ => ⟨rfl, pT_mem 256 (by decide +kernel) (by decide +kernel)⟩⟩
theorem fg_RX8_17 : mi_fg pP RX8 17 0 1 := ⟨RX8, TX8, 10, tyX8, cfX8, by decide, Or.inl (pT_mem 256 (by decide +kernel) (by decide +kernel))⟩
theorem fd_RX8_24 : mi_fd pP RX8 24 0 2 true (tyX8 2) := ⟨RX8, TX8, 10, tyX8, cfX8, by decide, rfl, rfl, Or.inl (pT_mem 257 (by decide +kernel) (by decide +kernel)), fun _ => ⟨rfl, pT_mem 257 (by decide +kernel) (by decide +kernel)⟩⟩
theorem fg_RX8_24 : mi_fg pP RX8 24 0 2 := ⟨RX8, TX8, 10, tyX8, cfX8, by decide, Or.inl (pT_mem 257 (by decide +kernel) (by decide +kernel))⟩
theorem fd_RX8_31 : mi_fd pP RX8 31 0 3 true (tyX8 3) := ⟨RX8, TX8, 10, tyX8, cfX8, by decide, rfl, rfl, Or.inl (pT_mem 258 (by decide +kernel) (by decide +kernel)), fun _ => ⟨rfl, pT_mem 258 (by decide +kernel) (by decide +kernel)⟩⟩
theorem fg_RX8_31 : mi_fg pP RX8 31 0 3 := ⟨RX8, TX8, 10, tyX8, cfX8, by decide, Or.inl (pT_mem 258 (by decide +kernel) (by decide +kernel))⟩
theorem fd_RX8_38 : mi_fd pP RX8 38 0 4 true (tyX8 4) := ⟨RX8, TX8, 10, tyX8, cfX8, by decide, rfl, rfl, Or.inl (pT_mem 259 (by decide +kernel) (by decide +kernel)), fun _ => ⟨rfl, pT_mem 259 (by decide +kernel) (by decide +kernel)⟩⟩
theorem fg_RX8_38 : mi_fg pP RX8 38 0 4 := ⟨RX8, TX8, 10, tyX8, cfX8, by decide, Or.inl (pT_mem 259 (by decide +kernel) (by decide +kernel))⟩
theorem fd_RX8_42 : mi_fd pP RX8 42 0 5 false (tyX8 5) := ⟨RX8, TX8, 10, tyX8, cfX8, by decide, rfl, rfl, Or.inl (pT_mem 260 (by decide +kernel) (by decide +kernel)), fun q => by cases q⟩
theorem fg_RX8_42 : mi_fg pP RX8 42 0 5 := ⟨RX8, TX8, 10, tyX8, cfX8, by decide, Or.inl (pT_mem 260 (by decide +kernel) (by decide +kernel))⟩
theorem fd_RX8_46 : mi_fd pP RX8 46 0 6 false (tyX8 6) := ⟨RX8, TX8, 10, tyX8, cfX8, by decide, rfl, rfl, Or.inl (pT_mem 261 (by decide +kernel) (by decide +kernel)), fun q => by cases q⟩
theorem fg_RX8_46 : mi_fg pP RX8 46 0 6 := ⟨RX8, TX8, 10, tyX8, cfX8, by decide, Or.inl (pT_mem 261 (by decide +kernel) (by decide +kernel))⟩
theorem fd_RX8_49 : mi_fd pP RX8 49 0 7 false (tyX8 7) := ⟨RX8, TX8, 10, tyX8, cfX8, by decide, rfl, rfl, Or.inl (pT_mem 262 (by decide +kernel) (by decide +kernel)), fun q => by cases q⟩
theorem fg_RX8_49 : mi_fg pP RX8 49 0 7 := ⟨RX8, TX8, 10, tyX8, cfX8, by decide, Or.inl (pT_mem 262 (by decide +kernel) (by decide +kernel))⟩
theorem fd_RX8_52 : mi_fd pP RX8 52 0 8 false (tyX8 8) := ⟨RX8, TX8, 10, tyX8, cfX8, by decide, rfl, rfl, Or.inl (pT_mem 263 (by decide +kernel) (by decide +kernel)), fun q => by cases q⟩
theorem fg_RX8_52 : mi_fg pP RX8 52 0 8 := ⟨RX8, TX8, 10, tyX8, cfX8, by decide, Or.inl (pT_mem 263 (by decide +kernel) (by decide +kernel))⟩
theorem fd_RX8_55 : mi_fd pP RX8 55 0 9 false (tyX8 9) := ⟨RX8, TX8, 10, tyX8, cfX8, by decide, rfl, rfl, Or.inl (pT_mem 264 (by decide +kernel) (by decide +kernel)), fun q => by cases q⟩
theorem fg_RX8_55 : mi_fg pP RX8 55 0 9 := ⟨RX8, TX8, 10, tyX8, cfX8, by decide, Or.inl (pT_mem 264 (by decide +kernel) (by decide +kernel))⟩
theorem sl_RX6_7 : Jvm.Cond.fieldLink RX6 7 RX6 "ZONE_FIRSTS" "[I" ∈ pP.2.1 := pT_mem 456 (by decide +kernel) (by decide +kernel)
theorem sl_RX6_17 : Jvm.Cond.fieldLink RX6 17 RX6 "ZONE_SECTORS" "[I" ∈ pP.2.1 := pT_mem 458 (by decide +kernel) (by decide +kernel)
theorem sl_RX1_47 : Jvm.Cond.fieldLink RX1 47 RX1 "LINE_SETS" "[I" ∈ pP.2.1 := pT_mem 615 (by decide +kernel) (by decide +kernel)
theorem sl_RX4_24 : Jvm.Cond.fieldLink RX4 24 RX4 "WORDS" "[I" ∈ pP.2.1 := pT_mem 638 (by decide +kernel) (by decide +kernel)
theorem sl_RJx4a65c_39 : Jvm.Cond.fieldLink RJx4a65c 39 RJx4a65c "DEFAULTCAPACITY_EMPTY_ELEMENTDATA" "[Ljava/lang/Object;" ∈ pP.2.1 := pT_mem 893 (by decide +kernel) (by decide +kernel)
theorem fd_RJx4a65c_9 : mi_fd pP RJx4a65c 9 13 1 false (tyJx4a65c 1) := ⟨RJx4a65c, TJx4a65c, 3, tyJx4a65c, cfJx4a65c, by decide, rfl, rfl, Or.inl (pT_mem 895 (by decide +kernel) (by decide +kernel)), fun q => by cases q⟩
theorem fg_RJx4a65c_9 : mi_fg pP RJx4a65c 9 13 1 := ⟨RJx4a65c, TJx4a65c, 3, tyJx4a65c, cfJx4a65c, by decide, Or.inl (pT_mem 895 (by decide +kernel) (by decide +kernel))⟩
theorem fd_RJx35411_37 : mi_fd pP RJx35411 37 13 1 false (tyJx4a65c 1) := ⟨RJx4a65c, TJx4a65c, 3, tyJx4a65c, cfJx4a65c, by decide, rfl, rfl, Or.inl (pT_mem 896 (by decide +kernel) (by decide +kernel)), fun q => by cases q⟩
theorem fg_RJx35411_37 : mi_fg pP RJx35411 37 13 1 := ⟨RJx4a65c, TJx4a65c, 3, tyJx4a65c, cfJx4a65c, by decide, Or.inl (pT_mem 896 (by decide +kernel) (by decide +kernel))⟩
theorem fd_RJx35411_28 : mi_fd pP RJx35411 28 13 2 false (tyJx4a65c 2) := ⟨RJx4a65c, TJx4a65c, 3, tyJx4a65c, cfJx4a65c, by decide, rfl, rfl, Or.inr ⟨"java/util/ArrayList", by decide +kernel⟩, fun q => by cases q⟩
theorem fg_RJx35411_28 : mi_fg pP RJx35411 28 13 2 := ⟨RJx4a65c, TJx4a65c, 3, tyJx4a65c, cfJx4a65c, by decide, Or.inr ⟨"java/util/ArrayList", by decide +kernel⟩⟩
theorem fd_RJx4a65c_48 : mi_fd pP RJx4a65c 48 13 2 false (tyJx4a65c 2) := ⟨RJx4a65c, TJx4a65c, 3, tyJx4a65c, cfJx4a65c, by decide, rfl, rfl, Or.inl (pT_mem 898 (by decide +kernel) (by decide +kernel)), fun q => by cases q⟩
theorem fg_RJx4a65c_48 : mi_fg pP RJx4a65c 48 13 2 := ⟨RJx4a65c, TJx4a65c, 3, tyJx4a65c, cfJx4a65c, by decide, Or.inl (pT_mem 898 (by decide +kernel) (by decide +kernel))⟩
theorem fd_RJxc12de_7 : mi_fd pP RJxc12de 7 13 0 false (tyJx4a65c 0) := ⟨RJx4a65c, TJx4a65c, 3, tyJx4a65c, cfJx4a65c, by decide, rfl, rfl, Or.inl (pT_mem 899 (by decide +kernel) (by decide +kernel)), fun q => by cases q⟩
theorem fg_RJxc12de_7 : mi_fg pP RJxc12de 7 13 0 := ⟨RJx4a65c, TJx4a65c, 3, tyJx4a65c, cfJx4a65c, by decide, Or.inl (pT_mem 899 (by decide +kernel) (by decide +kernel))⟩
theorem fd_RX9_35 : mi_fd pP RX9 35 9 0 false (tyX9 0) := ⟨RX9, TX9, 15, tyX9, cfX9, by decide, rfl, rfl, Or.inl (pT_mem 910 (by decide +kernel) (by decide +kernel)), fun q => by cases q⟩
theorem fg_RX9_35 : mi_fg pP RX9 35 9 0 := ⟨RX9, TX9, 15, tyX9, cfX9, by decide, Or.inl (pT_mem 910 (by decide +kernel) (by decide +kernel))⟩
theorem fd_RX9_11 : mi_fd pP RX9 11 9 1 true (tyX9 1) := ⟨RX9, TX9, 15, tyX9, cfX9, by decide, rfl, rfl, Or.inl (pT_mem 911 (by decide +kernel) (by decide +kernel)), fun _ => ⟨rfl, pT_mem 911 (by decide +kernel) (by decide +kernel)⟩⟩
theorem fg_RX9_11 : mi_fg pP RX9 11 9 1 := ⟨RX9, TX9, 15, tyX9, cfX9, by decide, Or.inl (pT_mem 911 (by decide +kernel) (by decide +kernel))⟩
theorem fd_RX9_15 : mi_fd pP RX9 15 9 2 true (tyX9 2) := ⟨RX9, TX9, 15, tyX9, cfX9, by decide, rfl, rfl, Or.inl (pT_mem 912 (by decide +kernel) (by decide +kernel)), fun _ => ⟨rfl, pT_mem 912 (by decide +kernel) (by decide +kernel)⟩⟩
theorem fg_RX9_15 : mi_fg pP RX9 15 9 2 := ⟨RX9, TX9, 15, tyX9, cfX9, by decide, Or.inl (pT_mem 912 (by decide +kernel) (by decide +kernel))⟩
theorem fd_RX9_21 : mi_fd pP RX9 21 9 3 true (tyX9 3) := ⟨RX9, TX9, 15, tyX9, cfX9, by decide, rfl, rfl, Or.inl (pT_mem 913 (by decide +kernel) (by decide +kernel)), fun _ => ⟨rfl, pT_mem 913 (by decide +kernel) (by decide +kernel)⟩⟩
theorem fg_RX9_21 : mi_fg pP RX9 21 9 3 := ⟨RX9, TX9, 15, tyX9, cfX9, by decide, Or.inl (pT_mem 913 (by decide +kernel) (by decide +kernel))⟩
theorem fd_RX9_25 : mi_fd pP RX9 25 9 4 true (tyX9 4) := ⟨RX9, TX9, 15, tyX9, cfX9, by decide, rfl, rfl, Or.inl (pT_mem 914 (by decide +kernel) (by decide +kernel)), fun _ => ⟨rfl, pT_mem 914 (by decide +kernel) (by decide +kernel)⟩⟩
theorem fg_RX9_25 : mi_fg pP RX9 25 9 4 := ⟨RX9, TX9, 15, tyX9, cfX9, by decide, Or.inl (pT_mem 914 (by decide +kernel) (by decide +kernel))⟩
theorem fd_RX9_124 : mi_fd pP RX9 124 9 5 false (tyX9 5) := ⟨RX9, TX9, 15, tyX9, cfX9, by decide, rfl, rfl, Or.inl (pT_mem 915 (by decide +kernel) (by decide +kernel)), fun q => by cases q⟩
theorem fg_RX9_124 : mi_fg pP RX9 124 9 5 := ⟨RX9, TX9, 15, tyX9, cfX9, by decide, Or.inl (pT_mem 915 (by decide +kernel) (by decide +kernel))⟩
theorem fd_RX9_120 : mi_fd pP RX9 120 9 6 false (tyX9 6) := ⟨RX9, TX9, 15, tyX9, cfX9, by decide, rfl, rfl, Or.inl (pT_mem 916 (by decide +kernel) (by decide +kernel)), fun q => by cases q⟩
theorem fg_RX9_120 : mi_fg pP RX9 120 9 6 := ⟨RX9, TX9, 15, tyX9, cfX9, by decide, Or.inl (pT_mem 916 (by decide +kernel) (by decide +kernel))⟩
theorem fd_RX9_127 : mi_fd pP RX9 127 9 7 false (tyX9 7) := ⟨RX9, TX9, 15, tyX9, cfX9, by decide, rfl, rfl, Or.inl (pT_mem 917 (by decide +kernel) (by decide +kernel)), fun q => by cases q⟩
theorem fg_RX9_127 : mi_fg pP RX9 127 9 7 := ⟨RX9, TX9, 15, tyX9, cfX9, by decide, Or.inl (pT_mem 917 (by decide +kernel) (by decide +kernel))⟩
theorem fd_RX9_28 : mi_fd pP RX9 28 9 8 false (tyX9 8) := ⟨RX9, TX9, 15, tyX9, cfX9, by decide, rfl, rfl, Or.inl (pT_mem 918 (by decide +kernel) (by decide +kernel)), fun q => by cases q⟩
theorem fg_RX9_28 : mi_fg pP RX9 28 9 8 := ⟨RX9, TX9, 15, tyX9, cfX9, by decide, Or.inl (pT_mem 918 (by decide +kernel) (by decide +kernel))⟩
theorem fd_RX9_32 : mi_fd pP RX9 32 9 9 true (tyX9 9) := ⟨RX9, TX9, 15, tyX9, cfX9, by decide, rfl, rfl, Or.inl (pT_mem 919 (by decide +kernel) (by decide +kernel)), fun _ => ⟨rfl, pT_mem 919 (by decide +kernel) (by decide +kernel)⟩⟩
theorem fg_RX9_32 : mi_fg pP RX9 32 9 9 := ⟨RX9, TX9, 15, tyX9, cfX9, by decide, Or.inl (pT_mem 919 (by decide +kernel) (by decide +kernel))⟩
theorem fd_RX9_201 : mi_fd pP RX9 201 9 10 false (tyX9 10) := ⟨RX9, TX9, 15, tyX9, cfX9, by decide, rfl, rfl, Or.inl (pT_mem 920 (by decide +kernel) (by decide +kernel)), fun q => by cases q⟩
theorem fg_RX9_201 : mi_fg pP RX9 201 9 10 := ⟨RX9, TX9, 15, tyX9, cfX9, by decide, Or.inl (pT_mem 920 (by decide +kernel) (by decide +kernel))⟩
theorem fd_RX9_197 : mi_fd pP RX9 197 9 11 false (tyX9 11) := ⟨RX9, TX9, 15, tyX9, cfX9, by decide, rfl, rfl, Or.inl (pT_mem 921 (by decide +kernel) (by decide +kernel)), fun q => by cases q⟩
theorem fg_RX9_197 : mi_fg pP RX9 197 9 11 := ⟨RX9, TX9, 15, tyX9, cfX9, by decide, Or.inl (pT_mem 921 (by decide +kernel) (by decide +kernel))⟩
theorem fd_RX9_214 : mi_fd pP RX9 214 9 12 false (tyX9 12) := ⟨RX9, TX9, 15, tyX9, cfX9, by decide, rfl, rfl, Or.inl (pT_mem 922 (by decide +kernel) (by decide +kernel)), fun q => by cases q⟩
theorem fg_RX9_214 : mi_fg pP RX9 214 9 12 := ⟨RX9, TX9, 15, tyX9, cfX9, by decide, Or.inl (pT_mem 922 (by decide +kernel) (by decide +kernel))⟩
theorem fd_RX9_178 : mi_fd pP RX9 178 9 13 false (tyX9 13) := ⟨RX9, TX9, 15, tyX9, cfX9, by decide, rfl, rfl, Or.inl (pT_mem 923 (by decide +kernel) (by decide +kernel)), fun q => by cases q⟩
theorem fg_RX9_178 : mi_fg pP RX9 178 9 13 := ⟨RX9, TX9, 15, tyX9, cfX9, by decide, Or.inl (pT_mem 923 (by decide +kernel) (by decide +kernel))⟩
theorem fd_RX9_181 : mi_fd pP RX9 181 9 14 false (tyX9 14) := ⟨RX9, TX9, 15, tyX9, cfX9, by decide, rfl, rfl, Or.inl (pT_mem 924 (by decide +kernel) (by decide +kernel)), fun q => by cases q⟩
theorem fg_RX9_181 : mi_fg pP RX9 181 9 14 := ⟨RX9, TX9, 15, tyX9, cfX9, by decide, Or.inl (pT_mem 924 (by decide +kernel) (by decide +kernel))⟩
theorem fd_RJx35411_25 : mi_fd pP RJx35411 25 14 0 false (tyJx35411 0) := ⟨RJx35411, TJx35411, 4, tyJx35411, cfJx35411, by decide, rfl, rfl, Or.inl (pT_mem 1102 (by decide +kernel) (by decide +kernel)), fun q => by cases q⟩
theorem fg_RJx35411_25 : mi_fg pP RJx35411 25 14 0 := ⟨RJx35411, TJx35411, 4, tyJx35411, cfJx35411, by decide, Or.inl (pT_mem 1102 (by decide +kernel) (by decide +kernel))⟩
theorem fd_RJx35411_13 : mi_fd pP RJx35411 13 14 1 false (tyJx35411 1) := ⟨RJx35411, TJx35411, 4, tyJx35411, cfJx35411, by decide, rfl, rfl, Or.inl (pT_mem 1103 (by decide +kernel) (by decide +kernel)), fun q => by cases q⟩
theorem fg_RJx35411_13 : mi_fg pP RJx35411 13 14 1 := ⟨RJx35411, TJx35411, 4, tyJx35411, cfJx35411, by decide, Or.inl (pT_mem 1103 (by decide +kernel) (by decide +kernel))⟩
theorem fd_RJx35411_22 : mi_fd pP RJx35411 22 14 2 false (tyJx35411 2) := ⟨RJx35411, TJx35411, 4, tyJx35411, cfJx35411, by decide, rfl, rfl, Or.inl (pT_mem 1104 (by decide +kernel) (by decide +kernel)), fun q => by cases q⟩
theorem fg_RJx35411_22 : mi_fg pP RJx35411 22 14 2 := ⟨RJx35411, TJx35411, 4, tyJx35411, cfJx35411, by decide, Or.inl (pT_mem 1104 (by decide +kernel) (by decide +kernel))⟩
theorem fd_RJx35411_1 : mi_fd pP RJx35411 1 14 3 true (tyJx35411 3) := ⟨RJx35411, TJx35411, 4, tyJx35411, cfJx35411, by decide, rfl, rfl, Or.inl (pT_mem 1105 (by decide +kernel) (by decide +kernel)), fun _ => ⟨rfl, pT_mem 1105 (by decide +kernel) (by decide +kernel)⟩⟩
theorem fg_RJx35411_1 : mi_fg pP RJx35411 1 14 3 := ⟨RJx35411, TJx35411, 4, tyJx35411, cfJx35411, by decide, Or.inl (pT_mem 1105 (by decide +kernel) (by decide +kernel))⟩
theorem cwX8_init (own : String) (idx : Nat) : mi_cw pP own idx kX8_init 0 := ⟨⟨pT_mem 71 (by decide +kernel) (by decide +kernel), pT_mem 40 (by decide +kernel) (by decide +kernel), by decide⟩, by decide, by decide, by decide +kernel⟩
theorem cwX8_session (own : String) (idx : Nat) : mi_cw pP own idx kX8_session 0 := ⟨⟨pT_mem 520 (by decide +kernel) (by decide +kernel), pT_mem 40 (by decide +kernel) (by decide +kernel), by decide⟩, by decide, by decide, by decide +kernel⟩
theorem cwX8_track (own : String) (idx : Nat) : mi_cw pP own idx kX8_track 2 := ⟨⟨pT_mem 548 (by decide +kernel) (by decide +kernel), pT_mem 40 (by decide +kernel) (by decide +kernel), by decide⟩, by decide, by decide, by decide +kernel⟩
theorem cwX8_write (own : String) (idx : Nat) : mi_cw pP own idx kX8_write 2 := ⟨⟨pT_mem 563 (by decide +kernel) (by decide +kernel), pT_mem 40 (by decide +kernel) (by decide +kernel), by decide⟩, by decide, by decide, by decide +kernel⟩
theorem cwX8_starve (own : String) (idx : Nat) : mi_cw pP own idx kX8_starve 1 := ⟨⟨pT_mem 665 (by decide +kernel) (by decide +kernel), pT_mem 40 (by decide +kernel) (by decide +kernel), by decide⟩, by decide, by decide, by decide +kernel⟩
theorem cwX8_close (own : String) (idx : Nat) : mi_cw pP own idx kX8_close 1 := ⟨⟨pT_mem 673 (by decide +kernel) (by decide +kernel), pT_mem 40 (by decide +kernel) (by decide +kernel), by decide⟩, by decide, by decide, by decide +kernel⟩
theorem cwX8_end (own : String) (idx : Nat) : mi_cw pP own idx kX8_end 0 := ⟨⟨pT_mem 685 (by decide +kernel) (by decide +kernel), pT_mem 40 (by decide +kernel) (by decide +kernel), by decide⟩, by decide, by decide, by decide +kernel⟩
theorem cwX8_file (own : String) (idx : Nat) : mi_cw pP own idx kX8_file 3 := ⟨⟨pT_mem 697 (by decide +kernel) (by decide +kernel), pT_mem 40 (by decide +kernel) (by decide +kernel), by decide⟩, by decide, by decide, by decide +kernel⟩
theorem cwX8_scratch (own : String) (idx : Nat) : mi_cw pP own idx kX8_scratch 4 := ⟨⟨pT_mem 711 (by decide +kernel) (by decide +kernel), pT_mem 40 (by decide +kernel) (by decide +kernel), by decide⟩, by decide, by decide, by decide +kernel⟩
theorem cwX8_rot (own : String) (idx : Nat) : mi_cw pP own idx kX8_rot 1 := ⟨⟨pT_mem 736 (by decide +kernel) (by decide +kernel), pT_mem 40 (by decide +kernel) (by decide +kernel), by decide⟩, by decide, by decide, by decide +kernel⟩
theorem cwX8_tray (own : String) (idx : Nat) : mi_cw pP own idx kX8_tray 1 := ⟨⟨pT_mem 289 (by decide +kernel) (by decide +kernel), pT_mem 40 (by decide +kernel) (by decide +kernel), by decide⟩, by decide, by decide, by decide +kernel⟩
theorem cwX8_push (own : String) (idx : Nat) : mi_cw pP own idx kX8_push 0 := ⟨⟨pT_mem 293 (by decide +kernel) (by decide +kernel), pT_mem 40 (by decide +kernel) (by decide +kernel), by decide⟩, by decide, by decide, by decide +kernel⟩
theorem cwX8_read (own : String) (idx : Nat) : mi_cw pP own idx kX8_read 1 := ⟨⟨pT_mem 751 (by decide +kernel) (by decide +kernel), pT_mem 40 (by decide +kernel) (by decide +kernel), by decide⟩, by decide, by decide, by decide +kernel⟩
theorem cwX8_seek (own : String) (idx : Nat) : mi_cw pP own idx kX8_seek 1 := ⟨⟨pT_mem 791 (by decide +kernel) (by decide +kernel), pT_mem 40 (by decide +kernel) (by decide +kernel), by decide⟩, by decide, by decide, by decide +kernel⟩
theorem cwX8_clock (own : String) (idx : Nat) : mi_cw pP own idx kX8_clock 0 := ⟨⟨pT_mem 297 (by decide +kernel) (by decide +kernel), pT_mem 40 (by decide +kernel) (by decide +kernel), by decide⟩, by decide, by decide, by decide +kernel⟩
theorem cwX8_angle (own : String) (idx : Nat) : mi_cw pP own idx kX8_angle 1 := ⟨⟨pT_mem 799 (by decide +kernel) (by decide +kernel), pT_mem 40 (by decide +kernel) (by decide +kernel), by decide⟩, by decide, by decide, by decide +kernel⟩
theorem cwX8_ofSector (own : String) (idx : Nat) : mi_cw pP own idx kX8_ofSector 2 := ⟨⟨pT_mem 427 (by decide +kernel) (by decide +kernel), pT_mem 40 (by decide +kernel) (by decide +kernel), by decide⟩, by decide, by decide, by decide +kernel⟩
theorem cwX8_nibbles (own : String) (idx : Nat) : mi_cw pP own idx kX8_nibbles 2 := ⟨⟨pT_mem 467 (by decide +kernel) (by decide +kernel), pT_mem 40 (by decide +kernel) (by decide +kernel), by decide⟩, by decide, by decide, by decide +kernel⟩
theorem cwX8_place (own : String) (idx : Nat) : mi_cw pP own idx kX8_place 2 := ⟨⟨pT_mem 814 (by decide +kernel) (by decide +kernel), pT_mem 40 (by decide +kernel) (by decide +kernel), by decide⟩, by decide, by decide, by decide +kernel⟩
theorem cwX8_ofTrack (own : String) (idx : Nat) : mi_cw pP own idx kX8_ofTrack 2 := ⟨⟨pT_mem 387 (by decide +kernel) (by decide +kernel), pT_mem 40 (by decide +kernel) (by decide +kernel), by decide⟩, by decide, by decide, by decide +kernel⟩
theorem cwX8_ofFile (own : String) (idx : Nat) : mi_cw pP own idx kX8_ofFile 3 := ⟨⟨pT_mem 494 (by decide +kernel) (by decide +kernel), pT_mem 40 (by decide +kernel) (by decide +kernel), by decide⟩, by decide, by decide, by decide +kernel⟩
theorem cwX8_play (own : String) (idx : Nat) : mi_cw pP own idx kX8_play 1 := ⟨⟨pT_mem 832 (by decide +kernel) (by decide +kernel), pT_mem 40 (by decide +kernel) (by decide +kernel), by decide⟩, by decide, by decide, by decide +kernel⟩
theorem cwX8_many (own : String) (idx : Nat) : mi_cw pP own idx kX8_many 1 := ⟨⟨pT_mem 307 (by decide +kernel) (by decide +kernel), pT_mem 40 (by decide +kernel) (by decide +kernel), by decide⟩, by decide, by decide, by decide +kernel⟩
theorem cwX8_wouldTake (own : String) (idx : Nat) : mi_cw pP own idx kX8_wouldTake 2 := ⟨⟨pT_mem 854 (by decide +kernel) (by decide +kernel), pT_mem 40 (by decide +kernel) (by decide +kernel), by decide⟩, by decide, by decide, by decide +kernel⟩
theorem cwX8_wouldMend (own : String) (idx : Nat) : mi_cw pP own idx kX8_wouldMend 2 := ⟨⟨pT_mem 867 (by decide +kernel) (by decide +kernel), pT_mem 40 (by decide +kernel) (by decide +kernel), by decide⟩, by decide, by decide, by decide +kernel⟩
theorem cwX8_digest (own : String) (idx : Nat) : mi_cw pP own idx kX8_digest 0 := ⟨⟨pT_mem 301 (by decide +kernel) (by decide +kernel), pT_mem 40 (by decide +kernel) (by decide +kernel), by decide⟩, by decide, by decide, by decide +kernel⟩
theorem cwX8_digestTracks (own : String) (idx : Nat) : mi_cw pP own idx kX8_digestTracks 1 := ⟨⟨pT_mem 383 (by decide +kernel) (by decide +kernel), pT_mem 40 (by decide +kernel) (by decide +kernel), by decide⟩, by decide, by decide, by decide +kernel⟩
theorem cwX8_digestSectors (own : String) (idx : Nat) : mi_cw pP own idx kX8_digestSectors 1 := ⟨⟨pT_mem 423 (by decide +kernel) (by decide +kernel), pT_mem 40 (by decide +kernel) (by decide +kernel), by decide⟩, by decide, by decide, by decide +kernel⟩
theorem cwX8_digestFiles (own : String) (idx : Nat) : mi_cw pP own idx kX8_digestFiles 1 := ⟨⟨pT_mem 490 (by decide +kernel) (by decide +kernel), pT_mem 40 (by decide +kernel) (by decide +kernel), by decide⟩, by decide, by decide, by decide +kernel⟩
theorem cwX8_isSector (own : String) (idx : Nat) : mi_cw pP own idx kX8_isSector 1 := ⟨⟨pT_mem 418 (by decide +kernel) (by decide +kernel), pT_mem 40 (by decide +kernel) (by decide +kernel), by decide⟩, by decide, by decide, by decide +kernel⟩
theorem cwX8_checkSector (own : String) (idx : Nat) : mi_cw pP own idx kX8_checkSector 1 := ⟨⟨pT_mem 430 (by decide +kernel) (by decide +kernel), pT_mem 40 (by decide +kernel) (by decide +kernel), by decide⟩, by decide, by decide, by decide +kernel⟩
theorem cwX8_checkFile (own : String) (idx : Nat) : mi_cw pP own idx kX8_checkFile 1 := ⟨⟨pT_mem 497 (by decide +kernel) (by decide +kernel), pT_mem 40 (by decide +kernel) (by decide +kernel), by decide⟩, by decide, by decide, by decide +kernel⟩
theorem cwX8_trackAt (own : String) (idx : Nat) : mi_cw pP own idx kX8_trackAt 1 := ⟨⟨pT_mem 391 (by decide +kernel) (by decide +kernel), pT_mem 40 (by decide +kernel) (by decide +kernel), by decide⟩, by decide, by decide, by decide +kernel⟩
theorem cwX8_left (own : String) (idx : Nat) : mi_cw pP own idx kX8_left 0 := ⟨⟨pT_mem 524 (by decide +kernel) (by decide +kernel), pT_mem 40 (by decide +kernel) (by decide +kernel), by decide⟩, by decide, by decide, by decide +kernel⟩
theorem cwX8_trackOf (own : String) (idx : Nat) : mi_cw pP own idx kX8_trackOf 1 := ⟨⟨pT_mem 435 (by decide +kernel) (by decide +kernel), pT_mem 40 (by decide +kernel) (by decide +kernel), by decide⟩, by decide, by decide, by decide +kernel⟩
theorem cwX8_hasOpenTrack (own : String) (idx : Nat) : mi_cw pP own idx kX8_hasOpenTrack 0 := ⟨⟨pT_mem 689 (by decide +kernel) (by decide +kernel), pT_mem 40 (by decide +kernel) (by decide +kernel), by decide⟩, by decide, by decide, by decide +kernel⟩
theorem cwX8_isGood (own : String) (idx : Nat) : mi_cw pP own idx kX8_isGood 1 := ⟨⟨pT_mem 415 (by decide +kernel) (by decide +kernel), pT_mem 40 (by decide +kernel) (by decide +kernel), by decide⟩, by decide, by decide, by decide +kernel⟩
theorem cwX8_goodFrom (own : String) (idx : Nat) : mi_cw pP own idx kX8_goodFrom 2 := ⟨⟨pT_mem 411 (by decide +kernel) (by decide +kernel), pT_mem 40 (by decide +kernel) (by decide +kernel), by decide⟩, by decide, by decide, by decide +kernel⟩
theorem cwX8_writtenOf (own : String) (idx : Nat) : mi_cw pP own idx kX8_writtenOf 1 := ⟨⟨pT_mem 311 (by decide +kernel) (by decide +kernel), pT_mem 40 (by decide +kernel) (by decide +kernel), by decide⟩, by decide, by decide, by decide +kernel⟩
theorem cwX8_sampleBetween (own : String) (idx : Nat) : mi_cw pP own idx kX8_sampleBetween 3 := ⟨⟨pT_mem 841 (by decide +kernel) (by decide +kernel), pT_mem 40 (by decide +kernel) (by decide +kernel), by decide⟩, by decide, by decide, by decide +kernel⟩
theorem cwX0_init (own : String) (idx : Nat) : mi_cw pP own idx kX0_init 0 := ⟨⟨pT_mem 126 (by decide +kernel) (by decide +kernel), pT_mem 43 (by decide +kernel) (by decide +kernel), by decide⟩, by decide, by decide, by decide +kernel⟩
theorem cwX1_init (own : String) (idx : Nat) : mi_cw pP own idx kX1_init 0 := ⟨⟨pT_mem 132 (by decide +kernel) (by decide +kernel), pT_mem 44 (by decide +kernel) (by decide +kernel), by decide⟩, by decide, by decide, by decide +kernel⟩
theorem cwX1_valueAt (own : String) (idx : Nat) : mi_cw pP own idx kX1_valueAt 1 := ⟨⟨pT_mem 482 (by decide +kernel) (by decide +kernel), pT_mem 44 (by decide +kernel) (by decide +kernel), by decide⟩, by decide, by decide, by decide +kernel⟩
theorem cwX1_isErased (own : String) (idx : Nat) : mi_cw pP own idx kX1_isErased 1 := ⟨⟨pT_mem 729 (by decide +kernel) (by decide +kernel), pT_mem 44 (by decide +kernel) (by decide +kernel), by decide⟩, by decide, by decide, by decide +kernel⟩
theorem cwX1_put (own : String) (idx : Nat) : mi_cw pP own idx kX1_put 2 := ⟨⟨pT_mem 592 (by decide +kernel) (by decide +kernel), pT_mem 44 (by decide +kernel) (by decide +kernel), by decide⟩, by decide, by decide, by decide +kernel⟩
theorem cwX1_erase (own : String) (idx : Nat) : mi_cw pP own idx kX1_erase 1 := ⟨⟨pT_mem 725 (by decide +kernel) (by decide +kernel), pT_mem 44 (by decide +kernel) (by decide +kernel), by decide⟩, by decide, by decide, by decide +kernel⟩
theorem cwX1_copyFrom (own : String) (idx : Nat) : mi_cw pP own idx kX1_copyFrom 1 := ⟨⟨pT_mem 606 (by decide +kernel) (by decide +kernel), pT_mem 44 (by decide +kernel) (by decide +kernel), by decide⟩, by decide, by decide, by decide +kernel⟩
theorem cwX1_spread (own : String) (idx : Nat) : mi_cw pP own idx kX1_spread 1 := ⟨⟨pT_mem 588 (by decide +kernel) (by decide +kernel), pT_mem 44 (by decide +kernel) (by decide +kernel), by decide⟩, by decide, by decide, by decide +kernel⟩
theorem cwX1_gathered (own : String) (idx : Nat) : mi_cw pP own idx kX1_gathered 0 := ⟨⟨pT_mem 475 (by decide +kernel) (by decide +kernel), pT_mem 44 (by decide +kernel) (by decide +kernel), by decide⟩, by decide, by decide, by decide +kernel⟩
theorem cwX1_mend (own : String) (idx : Nat) : mi_cw pP own idx kX1_mend 0 := ⟨⟨pT_mem 610 (by decide +kernel) (by decide +kernel), pT_mem 44 (by decide +kernel) (by decide +kernel), by decide⟩, by decide, by decide, by decide +kernel⟩
theorem cwX1_isEven (own : String) (idx : Nat) : mi_cw pP own idx kX1_isEven 0 := ⟨⟨pT_mem 633 (by decide +kernel) (by decide +kernel), pT_mem 44 (by decide +kernel) (by decide +kernel), by decide⟩, by decide, by decide, by decide +kernel⟩
theorem cwX1_fillErased (own : String) (idx : Nat) : mi_cw pP own idx kX1_fillErased 0 := ⟨⟨pT_mem 614 (by decide +kernel) (by decide +kernel), pT_mem 44 (by decide +kernel) (by decide +kernel), by decide⟩, by decide, by decide, by decide +kernel⟩
theorem cwX1_onlyOddOf (own : String) (idx : Nat) : mi_cw pP own idx kX1_onlyOddOf 1 := ⟨⟨pT_mem 625 (by decide +kernel) (by decide +kernel), pT_mem 44 (by decide +kernel) (by decide +kernel), by decide⟩, by decide, by decide, by decide +kernel⟩
theorem cwX1_parityOf (own : String) (idx : Nat) : mi_cw pP own idx kX1_parityOf 1 := ⟨⟨pT_mem 598 (by decide +kernel) (by decide +kernel), pT_mem 44 (by decide +kernel) (by decide +kernel), by decide⟩, by decide, by decide, by decide +kernel⟩
theorem cwX1_placeOf (own : String) (idx : Nat) : mi_cw pP own idx kX1_placeOf 1 := ⟨⟨pT_mem 478 (by decide +kernel) (by decide +kernel), pT_mem 44 (by decide +kernel) (by decide +kernel), by decide⟩, by decide, by decide, by decide +kernel⟩
theorem cwX2_init (own : String) (idx : Nat) : mi_cw pP own idx kX2_init 0 := ⟨⟨pT_mem 99 (by decide +kernel) (by decide +kernel), pT_mem 42 (by decide +kernel) (by decide +kernel), by decide⟩, by decide, by decide, by decide +kernel⟩
theorem cwX2_seekTime (own : String) (idx : Nat) : mi_cw pP own idx kX2_seekTime 2 := ⟨⟨pT_mem 762 (by decide +kernel) (by decide +kernel), pT_mem 42 (by decide +kernel) (by decide +kernel), by decide⟩, by decide, by decide, by decide +kernel⟩
theorem cwX2_restOfTurn (own : String) (idx : Nat) : mi_cw pP own idx kX2_restOfTurn 1 := ⟨⟨pT_mem 771 (by decide +kernel) (by decide +kernel), pT_mem 42 (by decide +kernel) (by decide +kernel), by decide⟩, by decide, by decide, by decide +kernel⟩
theorem cwX2_clockBehind (own : String) (idx : Nat) : mi_cw pP own idx kX2_clockBehind 3 := ⟨⟨pT_mem 759 (by decide +kernel) (by decide +kernel), pT_mem 42 (by decide +kernel) (by decide +kernel), by decide⟩, by decide, by decide, by decide +kernel⟩
theorem cwX2_headBehind (own : String) (idx : Nat) : mi_cw pP own idx kX2_headBehind 1 := ⟨⟨pT_mem 781 (by decide +kernel) (by decide +kernel), pT_mem 42 (by decide +kernel) (by decide +kernel), by decide⟩, by decide, by decide, by decide +kernel⟩
theorem cwX2_passOver (own : String) (idx : Nat) : mi_cw pP own idx kX2_passOver 1 := ⟨⟨pT_mem 756 (by decide +kernel) (by decide +kernel), pT_mem 42 (by decide +kernel) (by decide +kernel), by decide⟩, by decide, by decide, by decide +kernel⟩
theorem cwX2_timeOver (own : String) (idx : Nat) : mi_cw pP own idx kX2_timeOver 2 := ⟨⟨pT_mem 860 (by decide +kernel) (by decide +kernel), pT_mem 42 (by decide +kernel) (by decide +kernel), by decide⟩, by decide, by decide, by decide +kernel⟩
theorem cwX3_init (own : String) (idx : Nat) : mi_cw pP own idx kX3_init 0 := ⟨⟨pT_mem 83 (by decide +kernel) (by decide +kernel), pT_mem 41 (by decide +kernel) (by decide +kernel), by decide⟩, by decide, by decide, by decide +kernel⟩
theorem cwX3_tell (own : String) (idx : Nat) : mi_cw pP own idx kX3_tell 4 := ⟨⟨pT_mem 704 (by decide +kernel) (by decide +kernel), pT_mem 41 (by decide +kernel) (by decide +kernel), by decide⟩, by decide, by decide, by decide +kernel⟩
theorem cwX3_tellerOf (own : String) (idx : Nat) : mi_cw pP own idx kX3_tellerOf 2 := ⟨⟨pT_mem 504 (by decide +kernel) (by decide +kernel), pT_mem 41 (by decide +kernel) (by decide +kernel), by decide⟩, by decide, by decide, by decide +kernel⟩
theorem cwX3_firstOf (own : String) (idx : Nat) : mi_cw pP own idx kX3_firstOf 2 := ⟨⟨pT_mem 508 (by decide +kernel) (by decide +kernel), pT_mem 41 (by decide +kernel) (by decide +kernel), by decide⟩, by decide, by decide, by decide +kernel⟩
theorem cwX3_lengthOf (own : String) (idx : Nat) : mi_cw pP own idx kX3_lengthOf 2 := ⟨⟨pT_mem 512 (by decide +kernel) (by decide +kernel), pT_mem 41 (by decide +kernel) (by decide +kernel), by decide⟩, by decide, by decide, by decide +kernel⟩
theorem cwX4_init (own : String) (idx : Nat) : mi_cw pP own idx kX4_init 0 := ⟨⟨pT_mem 147 (by decide +kernel) (by decide +kernel), pT_mem 45 (by decide +kernel) (by decide +kernel), by decide⟩, by decide, by decide, by decide +kernel⟩
theorem cwX4_mark (own : String) (idx : Nat) : mi_cw pP own idx kX4_mark 1 := ⟨⟨pT_mem 637 (by decide +kernel) (by decide +kernel), pT_mem 45 (by decide +kernel) (by decide +kernel), by decide⟩, by decide, by decide, by decide +kernel⟩
theorem cwX4_isJoined (own : String) (idx : Nat) : mi_cw pP own idx kX4_isJoined 2 := ⟨⟨pT_mem 644 (by decide +kernel) (by decide +kernel), pT_mem 45 (by decide +kernel) (by decide +kernel), by decide⟩, by decide, by decide, by decide +kernel⟩
theorem cwX4_dsvBehind (own : String) (idx : Nat) : mi_cw pP own idx kX4_dsvBehind 1 := ⟨⟨pT_mem 648 (by decide +kernel) (by decide +kernel), pT_mem 45 (by decide +kernel) (by decide +kernel), by decide⟩, by decide, by decide, by decide +kernel⟩
theorem cwX4_putBits (own : String) (idx : Nat) : mi_cw pP own idx kX4_putBits 1 := ⟨⟨pT_mem 655 (by decide +kernel) (by decide +kernel), pT_mem 45 (by decide +kernel) (by decide +kernel), by decide⟩, by decide, by decide, by decide +kernel⟩
theorem cwX5_init (own : String) (idx : Nat) : mi_cw pP own idx kX5_init 1 := ⟨⟨pT_mem 178 (by decide +kernel) (by decide +kernel), pT_mem 46 (by decide +kernel) (by decide +kernel), by decide⟩, by decide, by decide, by decide +kernel⟩
theorem cwX5_fillWith (own : String) (idx : Nat) : mi_cw pP own idx kX5_fillWith 3 := ⟨⟨pT_mem 578 (by decide +kernel) (by decide +kernel), pT_mem 46 (by decide +kernel) (by decide +kernel), by decide⟩, by decide, by decide, by decide +kernel⟩
theorem cwX5_eraseColumn (own : String) (idx : Nat) : mi_cw pP own idx kX5_eraseColumn 3 := ⟨⟨pT_mem 721 (by decide +kernel) (by decide +kernel), pT_mem 46 (by decide +kernel) (by decide +kernel), by decide⟩, by decide, by decide, by decide +kernel⟩
theorem cwX5_makeWrong (own : String) (idx : Nat) : mi_cw pP own idx kX5_makeWrong 3 := ⟨⟨pT_mem 741 (by decide +kernel) (by decide +kernel), pT_mem 46 (by decide +kernel) (by decide +kernel), by decide⟩, by decide, by decide, by decide +kernel⟩
theorem cwX5_raw (own : String) (idx : Nat) : mi_cw pP own idx kX5_raw 0 := ⟨⟨pT_mem 471 (by decide +kernel) (by decide +kernel), pT_mem 46 (by decide +kernel) (by decide +kernel), by decide⟩, by decide, by decide, by decide +kernel⟩
theorem cwX5_sample (own : String) (idx : Nat) : mi_cw pP own idx kX5_sample 0 := ⟨⟨pT_mem 837 (by decide +kernel) (by decide +kernel), pT_mem 46 (by decide +kernel) (by decide +kernel), by decide⟩, by decide, by decide, by decide +kernel⟩
theorem cwX5_stateWithout (own : String) (idx : Nat) : mi_cw pP own idx kX5_stateWithout 2 := ⟨⟨pT_mem 873 (by decide +kernel) (by decide +kernel), pT_mem 46 (by decide +kernel) (by decide +kernel), by decide⟩, by decide, by decide, by decide +kernel⟩
theorem cwX5_reckon (own : String) (idx : Nat) : mi_cw pP own idx kX5_reckon 1 := ⟨⟨pT_mem 602 (by decide +kernel) (by decide +kernel), pT_mem 46 (by decide +kernel) (by decide +kernel), by decide⟩, by decide, by decide, by decide +kernel⟩
theorem cwX5_judged (own : String) (idx : Nat) : mi_cw pP own idx kX5_judged 1 := ⟨⟨pT_mem 629 (by decide +kernel) (by decide +kernel), pT_mem 46 (by decide +kernel) (by decide +kernel), by decide⟩, by decide, by decide, by decide +kernel⟩
theorem cwX5_mixed (own : String) (idx : Nat) : mi_cw pP own idx kX5_mixed 1 := ⟨⟨pT_mem 486 (by decide +kernel) (by decide +kernel), pT_mem 46 (by decide +kernel) (by decide +kernel), by decide⟩, by decide, by decide, by decide +kernel⟩
theorem cwX5_sumOf (own : String) (idx : Nat) : mi_cw pP own idx kX5_sumOf 1 := ⟨⟨pT_mem 581 (by decide +kernel) (by decide +kernel), pT_mem 46 (by decide +kernel) (by decide +kernel), by decide⟩, by decide, by decide, by decide +kernel⟩
theorem cwX5_nibbleOf (own : String) (idx : Nat) : mi_cw pP own idx kX5_nibbleOf 2 := ⟨⟨pT_mem 584 (by decide +kernel) (by decide +kernel), pT_mem 46 (by decide +kernel) (by decide +kernel), by decide⟩, by decide, by decide, by decide +kernel⟩
theorem cwX6_zoneOf (own : String) (idx : Nat) : mi_cw pP own idx kX6_zoneOf 1 := ⟨⟨pT_mem 455 (by decide +kernel) (by decide +kernel), pT_mem 66 (by decide +kernel) (by decide +kernel), by decide⟩, by decide, by decide, by decide +kernel⟩
theorem cwX6_turnOf (own : String) (idx : Nat) : mi_cw pP own idx kX6_turnOf 1 := ⟨⟨pT_mem 452 (by decide +kernel) (by decide +kernel), pT_mem 66 (by decide +kernel) (by decide +kernel), by decide⟩, by decide, by decide, by decide +kernel⟩
theorem cwX6_angleOf (own : String) (idx : Nat) : mi_cw pP own idx kX6_angleOf 1 := ⟨⟨pT_mem 716 (by decide +kernel) (by decide +kernel), pT_mem 66 (by decide +kernel) (by decide +kernel), by decide⟩, by decide, by decide, by decide +kernel⟩
theorem cwX6_speedOf (own : String) (idx : Nat) : mi_cw pP own idx kX6_speedOf 1 := ⟨⟨pT_mem 776 (by decide +kernel) (by decide +kernel), pT_mem 66 (by decide +kernel) (by decide +kernel), by decide⟩, by decide, by decide, by decide +kernel⟩
theorem cwX6_positionOf (own : String) (idx : Nat) : mi_cw pP own idx kX6_positionOf 1 := ⟨⟨pT_mem 462 (by decide +kernel) (by decide +kernel), pT_mem 66 (by decide +kernel) (by decide +kernel), by decide⟩, by decide, by decide, by decide +kernel⟩
theorem cwX7_init (own : String) (idx : Nat) : mi_cw pP own idx kX7_init 0 := ⟨⟨pT_mem 224 (by decide +kernel) (by decide +kernel), pT_mem 47 (by decide +kernel) (by decide +kernel), by decide⟩, by decide, by decide, by decide +kernel⟩
theorem cwX7_reserve (own : String) (idx : Nat) : mi_cw pP own idx kX7_reserve 4 := ⟨⟨pT_mem 554 (by decide +kernel) (by decide +kernel), pT_mem 47 (by decide +kernel) (by decide +kernel), by decide⟩, by decide, by decide, by decide +kernel⟩
theorem cwX7_behind (own : String) (idx : Nat) : mi_cw pP own idx kX7_behind 0 := ⟨⟨pT_mem 443 (by decide +kernel) (by decide +kernel), pT_mem 47 (by decide +kernel) (by decide +kernel), by decide⟩, by decide, by decide, by decide +kernel⟩
theorem cwX7_holds (own : String) (idx : Nat) : mi_cw pP own idx kX7_holds 1 := ⟨⟨pT_mem 439 (by decide +kernel) (by decide +kernel), pT_mem 47 (by decide +kernel) (by decide +kernel), by decide⟩, by decide, by decide, by decide +kernel⟩
theorem cwX7_hasRoom (own : String) (idx : Nat) : mi_cw pP own idx kX7_hasRoom 0 := ⟨⟨pT_mem 569 (by decide +kernel) (by decide +kernel), pT_mem 47 (by decide +kernel) (by decide +kernel), by decide⟩, by decide, by decide, by decide +kernel⟩
theorem cwX7_takeNext (own : String) (idx : Nat) : mi_cw pP own idx kX7_takeNext 0 := ⟨⟨pT_mem 574 (by decide +kernel) (by decide +kernel), pT_mem 47 (by decide +kernel) (by decide +kernel), by decide⟩, by decide, by decide, by decide +kernel⟩
theorem cwX7_giveBack (own : String) (idx : Nat) : mi_cw pP own idx kX7_giveBack 0 := ⟨⟨pT_mem 678 (by decide +kernel) (by decide +kernel), pT_mem 47 (by decide +kernel) (by decide +kernel), by decide⟩, by decide, by decide, by decide +kernel⟩
theorem cwX9_init (own : String) (idx : Nat) : mi_cw pP own idx kX9_init 0 := ⟨⟨pT_mem 878 (by decide +kernel) (by decide +kernel), pT_mem 48 (by decide +kernel) (by decide +kernel), by decide⟩, by decide, by decide, by decide +kernel⟩
theorem cwX9_thrown (own : String) (idx : Nat) : mi_cw pP own idx kX9_thrown 0 := ⟨⟨pT_mem 959 (by decide +kernel) (by decide +kernel), pT_mem 48 (by decide +kernel) (by decide +kernel), by decide⟩, by decide, by decide, by decide +kernel⟩
theorem cwX9_refuse (own : String) (idx : Nat) : mi_cw pP own idx kX9_refuse 2 := ⟨⟨pT_mem 971 (by decide +kernel) (by decide +kernel), pT_mem 48 (by decide +kernel) (by decide +kernel), by decide⟩, by decide, by decide, by decide +kernel⟩
theorem cwX9_start (own : String) (idx : Nat) : mi_cw pP own idx kX9_start 2 := ⟨⟨pT_mem 967 (by decide +kernel) (by decide +kernel), pT_mem 48 (by decide +kernel) (by decide +kernel), by decide⟩, by decide, by decide, by decide +kernel⟩
theorem cwX9_isIn (own : String) (idx : Nat) : mi_cw pP own idx kX9_isIn 3 := ⟨⟨pT_mem 978 (by decide +kernel) (by decide +kernel), pT_mem 48 (by decide +kernel) (by decide +kernel), by decide⟩, by decide, by decide, by decide +kernel⟩
theorem cwX9_one (own : String) (idx : Nat) : mi_cw pP own idx kX9_one 1 := ⟨⟨pT_mem 1241 (by decide +kernel) (by decide +kernel), pT_mem 48 (by decide +kernel) (by decide +kernel), by decide⟩, by decide, by decide, by decide +kernel⟩
theorem cwX9_isNoTrack (own : String) (idx : Nat) : mi_cw pP own idx kX9_isNoTrack 1 := ⟨⟨pT_mem 1047 (by decide +kernel) (by decide +kernel), pT_mem 48 (by decide +kernel) (by decide +kernel), by decide⟩, by decide, by decide, by decide +kernel⟩
theorem cwX9_isNoSector (own : String) (idx : Nat) : mi_cw pP own idx kX9_isNoSector 1 := ⟨⟨pT_mem 1148 (by decide +kernel) (by decide +kernel), pT_mem 48 (by decide +kernel) (by decide +kernel), by decide⟩, by decide, by decide, by decide +kernel⟩
theorem cwX9_mask (own : String) (idx : Nat) : mi_cw pP own idx kX9_mask 2 := ⟨⟨pT_mem 1076 (by decide +kernel) (by decide +kernel), pT_mem 48 (by decide +kernel) (by decide +kernel), by decide⟩, by decide, by decide, by decide +kernel⟩
theorem cwX9_placeOf (own : String) (idx : Nat) : mi_cw pP own idx kX9_placeOf 1 := ⟨⟨pT_mem 1072 (by decide +kernel) (by decide +kernel), pT_mem 48 (by decide +kernel) (by decide +kernel), by decide⟩, by decide, by decide, by decide +kernel⟩
theorem cwX9_blockOf (own : String) (idx : Nat) : mi_cw pP own idx kX9_blockOf 2 := ⟨⟨pT_mem 1069 (by decide +kernel) (by decide +kernel), pT_mem 48 (by decide +kernel) (by decide +kernel), by decide⟩, by decide, by decide, by decide +kernel⟩
theorem cwX9_nibblesOf (own : String) (idx : Nat) : mi_cw pP own idx kX9_nibblesOf 2 := ⟨⟨pT_mem 1216 (by decide +kernel) (by decide +kernel), pT_mem 48 (by decide +kernel) (by decide +kernel), by decide⟩, by decide, by decide, by decide +kernel⟩
theorem cwX9_sumOf (own : String) (idx : Nat) : mi_cw pP own idx kX9_sumOf 1 := ⟨⟨pT_mem 1079 (by decide +kernel) (by decide +kernel), pT_mem 48 (by decide +kernel) (by decide +kernel), by decide⟩, by decide, by decide, by decide +kernel⟩
theorem cwX9_at (own : String) (idx : Nat) : mi_cw pP own idx kX9_at 2 := ⟨⟨pT_mem 1210 (by decide +kernel) (by decide +kernel), pT_mem 48 (by decide +kernel) (by decide +kernel), by decide⟩, by decide, by decide, by decide +kernel⟩
theorem cwX9_parity (own : String) (idx : Nat) : mi_cw pP own idx kX9_parity 2 := ⟨⟨pT_mem 1213 (by decide +kernel) (by decide +kernel), pT_mem 48 (by decide +kernel) (by decide +kernel), by decide⟩, by decide, by decide, by decide +kernel⟩
theorem cwX9_fill (own : String) (idx : Nat) : mi_cw pP own idx kX9_fill 2 := ⟨⟨pT_mem 1207 (by decide +kernel) (by decide +kernel), pT_mem 48 (by decide +kernel) (by decide +kernel), by decide⟩, by decide, by decide, by decide +kernel⟩
theorem cwX9_mended (own : String) (idx : Nat) : mi_cw pP own idx kX9_mended 1 := ⟨⟨pT_mem 1203 (by decide +kernel) (by decide +kernel), pT_mem 48 (by decide +kernel) (by decide +kernel), by decide⟩, by decide, by decide, by decide +kernel⟩
theorem cwX9_worth (own : String) (idx : Nat) : mi_cw pP own idx kX9_worth 2 := ⟨⟨pT_mem 1200 (by decide +kernel) (by decide +kernel), pT_mem 48 (by decide +kernel) (by decide +kernel), by decide⟩, by decide, by decide, by decide +kernel⟩
theorem cwX9_worth_ (own : String) (idx : Nat) : mi_cw pP own idx kX9_worth_ 1 := ⟨⟨pT_mem 1196 (by decide +kernel) (by decide +kernel), pT_mem 48 (by decide +kernel) (by decide +kernel), by decide⟩, by decide, by decide, by decide +kernel⟩
theorem cwX9_isGood (own : String) (idx : Nat) : mi_cw pP own idx kX9_isGood 1 := ⟨⟨pT_mem 1277 (by decide +kernel) (by decide +kernel), pT_mem 48 (by decide +kernel) (by decide +kernel), by decide⟩, by decide, by decide, by decide +kernel⟩
theorem cwX9_bit (own : String) (idx : Nat) : mi_cw pP own idx kX9_bit 2 := ⟨⟨pT_mem 1252 (by decide +kernel) (by decide +kernel), pT_mem 48 (by decide +kernel) (by decide +kernel), by decide⟩, by decide, by decide, by decide +kernel⟩
theorem cwX9_after (own : String) (idx : Nat) : mi_cw pP own idx kX9_after 3 := ⟨⟨pT_mem 1249 (by decide +kernel) (by decide +kernel), pT_mem 48 (by decide +kernel) (by decide +kernel), by decide⟩, by decide, by decide, by decide +kernel⟩
theorem cwX9_marks (own : String) (idx : Nat) : mi_cw pP own idx kX9_marks 1 := ⟨⟨pT_mem 1244 (by decide +kernel) (by decide +kernel), pT_mem 48 (by decide +kernel) (by decide +kernel), by decide⟩, by decide, by decide, by decide +kernel⟩
theorem cwX9_session (own : String) (idx : Nat) : mi_cw pP own idx kX9_session 0 := ⟨⟨pT_mem 963 (by decide +kernel) (by decide +kernel), pT_mem 48 (by decide +kernel) (by decide +kernel), by decide⟩, by decide, by decide, by decide +kernel⟩
theorem cwX9_track (own : String) (idx : Nat) : mi_cw pP own idx kX9_track 2 := ⟨⟨pT_mem 975 (by decide +kernel) (by decide +kernel), pT_mem 48 (by decide +kernel) (by decide +kernel), by decide⟩, by decide, by decide, by decide +kernel⟩
theorem cwX9_isDone (own : String) (idx : Nat) : mi_cw pP own idx kX9_isDone 1 := ⟨⟨pT_mem 1052 (by decide +kernel) (by decide +kernel), pT_mem 48 (by decide +kernel) (by decide +kernel), by decide⟩, by decide, by decide, by decide +kernel⟩
theorem cwX9_write (own : String) (idx : Nat) : mi_cw pP own idx kX9_write 2 := ⟨⟨pT_mem 1043 (by decide +kernel) (by decide +kernel), pT_mem 48 (by decide +kernel) (by decide +kernel), by decide⟩, by decide, by decide, by decide +kernel⟩
theorem cwX9_starve (own : String) (idx : Nat) : mi_cw pP own idx kX9_starve 1 := ⟨⟨pT_mem 1083 (by decide +kernel) (by decide +kernel), pT_mem 48 (by decide +kernel) (by decide +kernel), by decide⟩, by decide, by decide, by decide +kernel⟩
theorem cwX9_close (own : String) (idx : Nat) : mi_cw pP own idx kX9_close 1 := ⟨⟨pT_mem 1087 (by decide +kernel) (by decide +kernel), pT_mem 48 (by decide +kernel) (by decide +kernel), by decide⟩, by decide, by decide, by decide +kernel⟩
theorem cwX9_end (own : String) (idx : Nat) : mi_cw pP own idx kX9_end 0 := ⟨⟨pT_mem 1091 (by decide +kernel) (by decide +kernel), pT_mem 48 (by decide +kernel) (by decide +kernel), by decide⟩, by decide, by decide, by decide +kernel⟩
theorem cwX9_isNoFile (own : String) (idx : Nat) : mi_cw pP own idx kX9_isNoFile 1 := ⟨⟨pT_mem 1145 (by decide +kernel) (by decide +kernel), pT_mem 48 (by decide +kernel) (by decide +kernel), by decide⟩, by decide, by decide, by decide +kernel⟩
theorem cwX9_file (own : String) (idx : Nat) : mi_cw pP own idx kX9_file 3 := ⟨⟨pT_mem 1141 (by decide +kernel) (by decide +kernel), pT_mem 48 (by decide +kernel) (by decide +kernel), by decide⟩, by decide, by decide, by decide +kernel⟩
theorem cwX9_turnOf (own : String) (idx : Nat) : mi_cw pP own idx kX9_turnOf 1 := ⟨⟨pT_mem 1155 (by decide +kernel) (by decide +kernel), pT_mem 48 (by decide +kernel) (by decide +kernel), by decide⟩, by decide, by decide, by decide +kernel⟩
theorem cwX9_angleOf (own : String) (idx : Nat) : mi_cw pP own idx kX9_angleOf 1 := ⟨⟨pT_mem 1158 (by decide +kernel) (by decide +kernel), pT_mem 48 (by decide +kernel) (by decide +kernel), by decide⟩, by decide, by decide, by decide +kernel⟩
theorem cwX9_scratch (own : String) (idx : Nat) : mi_cw pP own idx kX9_scratch 4 := ⟨⟨pT_mem 1152 (by decide +kernel) (by decide +kernel), pT_mem 48 (by decide +kernel) (by decide +kernel), by decide⟩, by decide, by decide, by decide +kernel⟩
theorem cwX9_rot (own : String) (idx : Nat) : mi_cw pP own idx kX9_rot 1 := ⟨⟨pT_mem 1163 (by decide +kernel) (by decide +kernel), pT_mem 48 (by decide +kernel) (by decide +kernel), by decide⟩, by decide, by decide, by decide +kernel⟩
theorem cwX9_tray (own : String) (idx : Nat) : mi_cw pP own idx kX9_tray 1 := ⟨⟨pT_mem 1167 (by decide +kernel) (by decide +kernel), pT_mem 48 (by decide +kernel) (by decide +kernel), by decide⟩, by decide, by decide, by decide +kernel⟩
theorem cwX9_push (own : String) (idx : Nat) : mi_cw pP own idx kX9_push 0 := ⟨⟨pT_mem 1171 (by decide +kernel) (by decide +kernel), pT_mem 48 (by decide +kernel) (by decide +kernel), by decide⟩, by decide, by decide, by decide +kernel⟩
theorem cwX9_seekFrom (own : String) (idx : Nat) : mi_cw pP own idx kX9_seekFrom 2 := ⟨⟨pT_mem 1178 (by decide +kernel) (by decide +kernel), pT_mem 48 (by decide +kernel) (by decide +kernel), by decide⟩, by decide, by decide, by decide +kernel⟩
theorem cwX9_readOf (own : String) (idx : Nat) : mi_cw pP own idx kX9_readOf 1 := ⟨⟨pT_mem 1185 (by decide +kernel) (by decide +kernel), pT_mem 48 (by decide +kernel) (by decide +kernel), by decide⟩, by decide, by decide, by decide +kernel⟩
theorem cwX9_behind (own : String) (idx : Nat) : mi_cw pP own idx kX9_behind 1 := ⟨⟨pT_mem 1191 (by decide +kernel) (by decide +kernel), pT_mem 48 (by decide +kernel) (by decide +kernel), by decide⟩, by decide, by decide, by decide +kernel⟩
theorem cwX9_read (own : String) (idx : Nat) : mi_cw pP own idx kX9_read 1 := ⟨⟨pT_mem 1175 (by decide +kernel) (by decide +kernel), pT_mem 48 (by decide +kernel) (by decide +kernel), by decide⟩, by decide, by decide, by decide +kernel⟩
theorem cwX9_seek (own : String) (idx : Nat) : mi_cw pP own idx kX9_seek 1 := ⟨⟨pT_mem 1222 (by decide +kernel) (by decide +kernel), pT_mem 48 (by decide +kernel) (by decide +kernel), by decide⟩, by decide, by decide, by decide +kernel⟩
theorem cwX9_clock (own : String) (idx : Nat) : mi_cw pP own idx kX9_clock 0 := ⟨⟨pT_mem 1226 (by decide +kernel) (by decide +kernel), pT_mem 48 (by decide +kernel) (by decide +kernel), by decide⟩, by decide, by decide, by decide +kernel⟩
theorem cwX9_angle (own : String) (idx : Nat) : mi_cw pP own idx kX9_angle 1 := ⟨⟨pT_mem 1230 (by decide +kernel) (by decide +kernel), pT_mem 48 (by decide +kernel) (by decide +kernel), by decide⟩, by decide, by decide, by decide +kernel⟩
theorem cwX9_toldOfSector (own : String) (idx : Nat) : mi_cw pP own idx kX9_toldOfSector 2 := ⟨⟨pT_mem 1238 (by decide +kernel) (by decide +kernel), pT_mem 48 (by decide +kernel) (by decide +kernel), by decide⟩, by decide, by decide, by decide +kernel⟩
theorem cwX9_ofSector (own : String) (idx : Nat) : mi_cw pP own idx kX9_ofSector 2 := ⟨⟨pT_mem 1234 (by decide +kernel) (by decide +kernel), pT_mem 48 (by decide +kernel) (by decide +kernel), by decide⟩, by decide, by decide, by decide +kernel⟩
theorem cwX9_nibblesAt (own : String) (idx : Nat) : mi_cw pP own idx kX9_nibblesAt 2 := ⟨⟨pT_mem 1260 (by decide +kernel) (by decide +kernel), pT_mem 48 (by decide +kernel) (by decide +kernel), by decide⟩, by decide, by decide, by decide +kernel⟩
theorem cwX9_nibbles (own : String) (idx : Nat) : mi_cw pP own idx kX9_nibbles 2 := ⟨⟨pT_mem 1256 (by decide +kernel) (by decide +kernel), pT_mem 48 (by decide +kernel) (by decide +kernel), by decide⟩, by decide, by decide, by decide +kernel⟩
theorem cwX9_place (own : String) (idx : Nat) : mi_cw pP own idx kX9_place 2 := ⟨⟨pT_mem 1265 (by decide +kernel) (by decide +kernel), pT_mem 48 (by decide +kernel) (by decide +kernel), by decide⟩, by decide, by decide, by decide +kernel⟩
theorem cwX9_toldOfTrack (own : String) (idx : Nat) : mi_cw pP own idx kX9_toldOfTrack 2 := ⟨⟨pT_mem 1273 (by decide +kernel) (by decide +kernel), pT_mem 48 (by decide +kernel) (by decide +kernel), by decide⟩, by decide, by decide, by decide +kernel⟩
theorem cwX9_ofTrack (own : String) (idx : Nat) : mi_cw pP own idx kX9_ofTrack 2 := ⟨⟨pT_mem 1269 (by decide +kernel) (by decide +kernel), pT_mem 48 (by decide +kernel) (by decide +kernel), by decide⟩, by decide, by decide, by decide +kernel⟩
theorem cwX9_toldOfFile (own : String) (idx : Nat) : mi_cw pP own idx kX9_toldOfFile 3 := ⟨⟨pT_mem 1285 (by decide +kernel) (by decide +kernel), pT_mem 48 (by decide +kernel) (by decide +kernel), by decide⟩, by decide, by decide, by decide +kernel⟩
theorem cwX9_ofFile (own : String) (idx : Nat) : mi_cw pP own idx kX9_ofFile 3 := ⟨⟨pT_mem 1281 (by decide +kernel) (by decide +kernel), pT_mem 48 (by decide +kernel) (by decide +kernel), by decide⟩, by decide, by decide, by decide +kernel⟩
theorem cwX9_sample (own : String) (idx : Nat) : mi_cw pP own idx kX9_sample 1 := ⟨⟨pT_mem 1293 (by decide +kernel) (by decide +kernel), pT_mem 48 (by decide +kernel) (by decide +kernel), by decide⟩, by decide, by decide, by decide +kernel⟩
theorem cwX9_isHeard (own : String) (idx : Nat) : mi_cw pP own idx kX9_isHeard 2 := ⟨⟨pT_mem 1297 (by decide +kernel) (by decide +kernel), pT_mem 48 (by decide +kernel) (by decide +kernel), by decide⟩, by decide, by decide, by decide +kernel⟩
theorem cwX9_play (own : String) (idx : Nat) : mi_cw pP own idx kX9_play 1 := ⟨⟨pT_mem 1289 (by decide +kernel) (by decide +kernel), pT_mem 48 (by decide +kernel) (by decide +kernel), by decide⟩, by decide, by decide, by decide +kernel⟩
theorem cwX9_told (own : String) (idx : Nat) : mi_cw pP own idx kX9_told 1 := ⟨⟨pT_mem 1307 (by decide +kernel) (by decide +kernel), pT_mem 48 (by decide +kernel) (by decide +kernel), by decide⟩, by decide, by decide, by decide +kernel⟩
theorem cwX9_many (own : String) (idx : Nat) : mi_cw pP own idx kX9_many 1 := ⟨⟨pT_mem 1303 (by decide +kernel) (by decide +kernel), pT_mem 48 (by decide +kernel) (by decide +kernel), by decide⟩, by decide, by decide, by decide +kernel⟩
theorem cwX9_wouldTake (own : String) (idx : Nat) : mi_cw pP own idx kX9_wouldTake 2 := ⟨⟨pT_mem 1311 (by decide +kernel) (by decide +kernel), pT_mem 48 (by decide +kernel) (by decide +kernel), by decide⟩, by decide, by decide, by decide +kernel⟩
theorem cwX9_wouldMend (own : String) (idx : Nat) : mi_cw pP own idx kX9_wouldMend 2 := ⟨⟨pT_mem 1315 (by decide +kernel) (by decide +kernel), pT_mem 48 (by decide +kernel) (by decide +kernel), by decide⟩, by decide, by decide, by decide +kernel⟩
theorem cwX9_add (own : String) (idx : Nat) : mi_cw pP own idx kX9_add 2 := ⟨⟨pT_mem 1324 (by decide +kernel) (by decide +kernel), pT_mem 48 (by decide +kernel) (by decide +kernel), by decide⟩, by decide, by decide, by decide +kernel⟩
theorem cwX9_digest (own : String) (idx : Nat) : mi_cw pP own idx kX9_digest 0 := ⟨⟨pT_mem 1320 (by decide +kernel) (by decide +kernel), pT_mem 48 (by decide +kernel) (by decide +kernel), by decide⟩, by decide, by decide, by decide +kernel⟩
theorem cwJ6_bitCount_0f7a4 (own : String) (idx : Nat) : mi_cw pP own idx kJ6_bitCount_0f7a4 1 := ⟨⟨pT_mem 446 (by decide +kernel) (by decide +kernel), pT_mem 62 (by decide +kernel) (by decide +kernel), by decide⟩, by decide, by decide, by decide +kernel⟩
theorem cwJ6_numberOfTrailingZeros_0f7a4 (own : String) (idx : Nat) : mi_cw pP own idx kJ6_numberOfTrailingZeros_0f7a4 1 := ⟨⟨pT_mem 620 (by decide +kernel) (by decide +kernel), pT_mem 62 (by decide +kernel) (by decide +kernel), by decide⟩, by decide, by decide, by decide +kernel⟩
theorem cwJ9_abs_0f7a4 (own : String) (idx : Nat) : mi_cw pP own idx kJ9_abs_0f7a4 1 := ⟨⟨pT_mem 651 (by decide +kernel) (by decide +kernel), pT_mem 58 (by decide +kernel) (by decide +kernel), by decide⟩, by decide, by decide, by decide +kernel⟩
theorem cwJ9_max_7cf53 (own : String) (idx : Nat) : mi_cw pP own idx kJ9_max_7cf53 2 := ⟨⟨pT_mem 658 (by decide +kernel) (by decide +kernel), pT_mem 58 (by decide +kernel) (by decide +kernel), by decide⟩, by decide, by decide, by decide +kernel⟩
theorem cwJ9_min_7cf53 (own : String) (idx : Nat) : mi_cw pP own idx kJ9_min_7cf53 2 := ⟨⟨pT_mem 784 (by decide +kernel) (by decide +kernel), pT_mem 58 (by decide +kernel) (by decide +kernel), by decide⟩, by decide, by decide, by decide +kernel⟩
theorem cwJxa1e45_init_da8c8 (own : String) (idx : Nat) : mi_cw pP own idx kJxa1e45_init_da8c8 0 := ⟨⟨pT_mem 891 (by decide +kernel) (by decide +kernel), pT_mem 49 (by decide +kernel) (by decide +kernel), by decide⟩, by decide, by decide, by decide +kernel⟩
theorem cwJxc12de_init_da8c8 (own : String) (idx : Nat) : mi_cw pP own idx kJxc12de_init_da8c8 0 := ⟨⟨pT_mem 888 (by decide +kernel) (by decide +kernel), pT_mem 50 (by decide +kernel) (by decide +kernel), by decide⟩, by decide, by decide, by decide +kernel⟩
theorem cwJx4a65c_init_da8c8 (own : String) (idx : Nat) : mi_cw pP own idx kJx4a65c_init_da8c8 0 := ⟨⟨pT_mem 885 (by decide +kernel) (by decide +kernel), pT_mem 51 (by decide +kernel) (by decide +kernel), by decide⟩, by decide, by decide, by decide +kernel⟩
theorem cwJx4a65c_size_8abf5 (own : String) (idx : Nat) : mi_cw pP own idx kJx4a65c_size_8abf5 0 := ⟨⟨pT_mem 982 (by decide +kernel) (by decide +kernel), pT_mem 51 (by decide +kernel) (by decide +kernel), by decide⟩, by decide, by decide, by decide +kernel⟩
theorem cwJx4a65c_iterator_32c93 (own : String) (idx : Nat) : mi_cw pP own idx kJx4a65c_iterator_32c93 0 := ⟨⟨pT_mem 1095 (by decide +kernel) (by decide +kernel), pT_mem 51 (by decide +kernel) (by decide +kernel), by decide⟩, by decide, by decide, by decide +kernel⟩
theorem cwJx35411_init_45d68 (own : String) (idx : Nat) : mi_cw pP own idx kJx35411_init_45d68 1 := ⟨⟨pT_mem 1100 (by decide +kernel) (by decide +kernel), pT_mem 65 (by decide +kernel) (by decide +kernel), by decide⟩, by decide, by decide, by decide +kernel⟩
theorem cwJx35411_hasNext_aae02 (own : String) (idx : Nat) : mi_cw pP own idx kJx35411_hasNext_aae02 0 := ⟨⟨pT_mem 1124 (by decide +kernel) (by decide +kernel), pT_mem 65 (by decide +kernel) (by decide +kernel), by decide⟩, by decide, by decide, by decide +kernel⟩
theorem ch_RL_91 : mi_cH pP RL 91 kL_session 2 := ⟨⟨pT_mem 515 (by decide +kernel) (by decide +kernel), pT_mem 39 (by decide +kernel) (by decide +kernel), by decide⟩, ⟨by decide, by decide, by decide +kernel⟩, pT_mem 513 (by decide +kernel) (by decide +kernel), pT_mem 514 (by decide +kernel) (by decide +kernel)⟩
theorem ch_RL_100 : mi_cH pP RL 100 kL_track 4 := ⟨⟨pT_mem 543 (by decide +kernel) (by decide +kernel), pT_mem 39 (by decide +kernel) (by decide +kernel), by decide⟩, ⟨by decide, by decide, by decide +kernel⟩, pT_mem 541 (by decide +kernel) (by decide +kernel), pT_mem 542 (by decide +kernel) (by decide +kernel)⟩
theorem ch_RL_106 : mi_cH pP RL 106 kL_write 4 := ⟨⟨pT_mem 558 (by decide +kernel) (by decide +kernel), pT_mem 39 (by decide +kernel) (by decide +kernel), by decide⟩, ⟨by decide, by decide, by decide +kernel⟩, pT_mem 556 (by decide +kernel) (by decide +kernel), pT_mem 557 (by decide +kernel) (by decide +kernel)⟩
theorem ch_RL_110 : mi_cH pP RL 110 kL_starve 3 := ⟨⟨pT_mem 661 (by decide +kernel) (by decide +kernel), pT_mem 39 (by decide +kernel) (by decide +kernel), by decide⟩, ⟨by decide, by decide, by decide +kernel⟩, pT_mem 659 (by decide +kernel) (by decide +kernel), pT_mem 660 (by decide +kernel) (by decide +kernel)⟩
theorem ch_RL_114 : mi_cH pP RL 114 kL_close 3 := ⟨⟨pT_mem 669 (by decide +kernel) (by decide +kernel), pT_mem 39 (by decide +kernel) (by decide +kernel), by decide⟩, ⟨by decide, by decide, by decide +kernel⟩, pT_mem 667 (by decide +kernel) (by decide +kernel), pT_mem 668 (by decide +kernel) (by decide +kernel)⟩
theorem ch_RL_117 : mi_cH pP RL 117 kL_end 2 := ⟨⟨pT_mem 681 (by decide +kernel) (by decide +kernel), pT_mem 39 (by decide +kernel) (by decide +kernel), by decide⟩, ⟨by decide, by decide, by decide +kernel⟩, pT_mem 679 (by decide +kernel) (by decide +kernel), pT_mem 680 (by decide +kernel) (by decide +kernel)⟩
theorem ch_RL_120 : mi_cH pP RL 120 kL_file 5 := ⟨⟨pT_mem 693 (by decide +kernel) (by decide +kernel), pT_mem 39 (by decide +kernel) (by decide +kernel), by decide⟩, ⟨by decide, by decide, by decide +kernel⟩, pT_mem 691 (by decide +kernel) (by decide +kernel), pT_mem 692 (by decide +kernel) (by decide +kernel)⟩
theorem ch_RL_124 : mi_cH pP RL 124 kL_scratch 6 := ⟨⟨pT_mem 707 (by decide +kernel) (by decide +kernel), pT_mem 39 (by decide +kernel) (by decide +kernel), by decide⟩, ⟨by decide, by decide, by decide +kernel⟩, pT_mem 705 (by decide +kernel) (by decide +kernel), pT_mem 706 (by decide +kernel) (by decide +kernel)⟩
theorem ch_RL_128 : mi_cH pP RL 128 kL_rot 3 := ⟨⟨pT_mem 732 (by decide +kernel) (by decide +kernel), pT_mem 39 (by decide +kernel) (by decide +kernel), by decide⟩, ⟨by decide, by decide, by decide +kernel⟩, pT_mem 730 (by decide +kernel) (by decide +kernel), pT_mem 731 (by decide +kernel) (by decide +kernel)⟩
theorem ch_RL_140 : mi_cH pP RL 140 kL_read 3 := ⟨⟨pT_mem 747 (by decide +kernel) (by decide +kernel), pT_mem 39 (by decide +kernel) (by decide +kernel), by decide⟩, ⟨by decide, by decide, by decide +kernel⟩, pT_mem 745 (by decide +kernel) (by decide +kernel), pT_mem 746 (by decide +kernel) (by decide +kernel)⟩
theorem ch_RL_143 : mi_cH pP RL 143 kL_seek 3 := ⟨⟨pT_mem 787 (by decide +kernel) (by decide +kernel), pT_mem 39 (by decide +kernel) (by decide +kernel), by decide⟩, ⟨by decide, by decide, by decide +kernel⟩, pT_mem 785 (by decide +kernel) (by decide +kernel), pT_mem 786 (by decide +kernel) (by decide +kernel)⟩
theorem ch_RL_152 : mi_cH pP RL 152 kL_angle 3 := ⟨⟨pT_mem 795 (by decide +kernel) (by decide +kernel), pT_mem 39 (by decide +kernel) (by decide +kernel), by decide⟩, ⟨by decide, by decide, by decide +kernel⟩, pT_mem 793 (by decide +kernel) (by decide +kernel), pT_mem 794 (by decide +kernel) (by decide +kernel)⟩
theorem ch_RL_155 : mi_cH pP RL 155 kL_ofSector 4 := ⟨⟨pT_mem 802 (by decide +kernel) (by decide +kernel), pT_mem 39 (by decide +kernel) (by decide +kernel), by decide⟩, ⟨by decide, by decide, by decide +kernel⟩, pT_mem 800 (by decide +kernel) (by decide +kernel), pT_mem 801 (by decide +kernel) (by decide +kernel)⟩
theorem ch_RL_158 : mi_cH pP RL 158 kL_nibbles 4 := ⟨⟨pT_mem 806 (by decide +kernel) (by decide +kernel), pT_mem 39 (by decide +kernel) (by decide +kernel), by decide⟩, ⟨by decide, by decide, by decide +kernel⟩, pT_mem 804 (by decide +kernel) (by decide +kernel), pT_mem 805 (by decide +kernel) (by decide +kernel)⟩
theorem ch_RL_162 : mi_cH pP RL 162 kL_place 4 := ⟨⟨pT_mem 810 (by decide +kernel) (by decide +kernel), pT_mem 39 (by decide +kernel) (by decide +kernel), by decide⟩, ⟨by decide, by decide, by decide +kernel⟩, pT_mem 808 (by decide +kernel) (by decide +kernel), pT_mem 809 (by decide +kernel) (by decide +kernel)⟩
theorem ch_RL_165 : mi_cH pP RL 165 kL_ofTrack 4 := ⟨⟨pT_mem 820 (by decide +kernel) (by decide +kernel), pT_mem 39 (by decide +kernel) (by decide +kernel), by decide⟩, ⟨by decide, by decide, by decide +kernel⟩, pT_mem 818 (by decide +kernel) (by decide +kernel), pT_mem 819 (by decide +kernel) (by decide +kernel)⟩
theorem ch_RL_168 : mi_cH pP RL 168 kL_ofFile 5 := ⟨⟨pT_mem 824 (by decide +kernel) (by decide +kernel), pT_mem 39 (by decide +kernel) (by decide +kernel), by decide⟩, ⟨by decide, by decide, by decide +kernel⟩, pT_mem 822 (by decide +kernel) (by decide +kernel), pT_mem 823 (by decide +kernel) (by decide +kernel)⟩
theorem ch_RL_171 : mi_cH pP RL 171 kL_play 3 := ⟨⟨pT_mem 828 (by decide +kernel) (by decide +kernel), pT_mem 39 (by decide +kernel) (by decide +kernel), by decide⟩, ⟨by decide, by decide, by decide +kernel⟩, pT_mem 826 (by decide +kernel) (by decide +kernel), pT_mem 827 (by decide +kernel) (by decide +kernel)⟩
theorem ch_RL_174 : mi_cH pP RL 174 kL_many 3 := ⟨⟨pT_mem 846 (by decide +kernel) (by decide +kernel), pT_mem 39 (by decide +kernel) (by decide +kernel), by decide⟩, ⟨by decide, by decide, by decide +kernel⟩, pT_mem 844 (by decide +kernel) (by decide +kernel), pT_mem 845 (by decide +kernel) (by decide +kernel)⟩
theorem ch_RL_177 : mi_cH pP RL 177 kL_wouldTake 4 := ⟨⟨pT_mem 850 (by decide +kernel) (by decide +kernel), pT_mem 39 (by decide +kernel) (by decide +kernel), by decide⟩, ⟨by decide, by decide, by decide +kernel⟩, pT_mem 848 (by decide +kernel) (by decide +kernel), pT_mem 849 (by decide +kernel) (by decide +kernel)⟩
theorem ch_RL_181 : mi_cH pP RL 181 kL_wouldMend 4 := ⟨⟨pT_mem 863 (by decide +kernel) (by decide +kernel), pT_mem 39 (by decide +kernel) (by decide +kernel), by decide⟩, ⟨by decide, by decide, by decide +kernel⟩, pT_mem 861 (by decide +kernel) (by decide +kernel), pT_mem 862 (by decide +kernel) (by decide +kernel)⟩
theorem ci_RL_87 : mi_cI pP RL 87 kX8_init 0 := ⟨cwX8_init _ _, rfl, rfl, pT_mem 70 (by decide +kernel) (by decide +kernel), Or.inl (pT_mem 69 (by decide +kernel) (by decide +kernel))⟩
theorem ob_RX8_1 : Jvm.Cond.methodLink RX8 1 objectInit ∈ pP.2.1 := pT_mem 72 (by decide +kernel) (by decide +kernel)
theorem ci_RX8_23 : mi_cI pP RX8 23 kX3_init 0 := ⟨cwX3_init _ _, rfl, rfl, pT_mem 82 (by decide +kernel) (by decide +kernel), Or.inr ⟨"PitHouse", by decide +kernel⟩⟩
theorem ob_RX3_3 : Jvm.Cond.methodLink RX3 3 objectInit ∈ pP.2.1 := pT_mem 84 (by decide +kernel) (by decide +kernel)
theorem ci_RX8_30 : mi_cI pP RX8 30 kX2_init 0 := ⟨cwX2_init _ _, rfl, rfl, pT_mem 98 (by decide +kernel) (by decide +kernel), Or.inr ⟨"PitHouse", by decide +kernel⟩⟩
theorem ob_RX2_3 : Jvm.Cond.methodLink RX2 3 objectInit ∈ pP.2.1 := pT_mem 100 (by decide +kernel) (by decide +kernel)
theorem ci_RX8_37 : mi_cI pP RX8 37 kX0_init 0 := ⟨cwX0_init _ _, rfl, rfl, pT_mem 125 (by decide +kernel) (by decide +kernel), Or.inr ⟨"PitHouse", by decide +kernel⟩⟩
theorem ob_RX0_1 : Jvm.Cond.methodLink RX0 1 objectInit ∈ pP.2.1 := pT_mem 127 (by decide +kernel) (by decide +kernel)
theorem ci_RX0_9 : mi_cI pP RX0 9 kX1_init 0 := ⟨cwX1_init _ _, rfl, rfl, pT_mem 131 (by decide +kernel) (by decide +kernel), Or.inr ⟨"PitHouse", by decide +kernel⟩⟩
theorem ob_RX1_3 : Jvm.Cond.methodLink RX1 3 objectInit ∈ pP.2.1 := pT_mem 133 (by decide +kernel) (by decide +kernel)
theorem ci_RX0_18 : mi_cI pP RX0 18 kX4_init 0 := ⟨cwX4_init _ _, rfl, rfl, pT_mem 146 (by decide +kernel) (by decide +kernel), Or.inr ⟨"PitHouse", by decide +kernel⟩⟩
theorem ob_RX4_1 : Jvm.Cond.methodLink RX4 1 objectInit ∈ pP.2.1 := pT_mem 148 (by decide +kernel) (by decide +kernel)
theorem ci_RX8_59 : mi_cI pP RX8 59 kX5_init 1 := ⟨cwX5_init _ _, rfl, rfl, pT_mem 177 (by decide +kernel) (by decide +kernel), Or.inl (pT_mem 176 (by decide +kernel) (by decide +kernel))⟩
theorem ob_RX5_3 : Jvm.Cond.methodLink RX5 3 objectInit ∈ pP.2.1 := pT_mem 179 (by decide +kernel) (by decide +kernel)
theorem ci_RX5_11 : mi_cI pP RX5 11 kX1_init 0 := ⟨cwX1_init _ _, rfl, rfl, pT_mem 131 (by decide +kernel) (by decide +kernel), Or.inr ⟨"PitHouse", by decide +kernel⟩⟩
theorem ci_RX8_62 : mi_cI pP RX8 62 kX7_init 0 := ⟨cwX7_init _ _, rfl, rfl, pT_mem 223 (by decide +kernel) (by decide +kernel), Or.inr ⟨"PitHouse", by decide +kernel⟩⟩
theorem ob_RX7_3 : Jvm.Cond.methodLink RX7 3 objectInit ∈ pP.2.1 := pT_mem 225 (by decide +kernel) (by decide +kernel)
theorem cv_RL_131 : mi_cV pP RL 131 kX8_tray 1 := ⟨cwX8_tray _ _, pT_mem 286 (by decide +kernel) (by decide +kernel), pT_mem 287 (by decide +kernel) (by decide +kernel), pT_mem 288 (by decide +kernel) (by decide +kernel)⟩
theorem cv_RL_136 : mi_cV pP RL 136 kX8_push 0 := ⟨cwX8_push _ _, pT_mem 290 (by decide +kernel) (by decide +kernel), pT_mem 291 (by decide +kernel) (by decide +kernel), pT_mem 292 (by decide +kernel) (by decide +kernel)⟩
theorem cv_RL_147 : mi_cV pP RL 147 kX8_clock 0 := ⟨cwX8_clock _ _, pT_mem 294 (by decide +kernel) (by decide +kernel), pT_mem 295 (by decide +kernel) (by decide +kernel), pT_mem 296 (by decide +kernel) (by decide +kernel)⟩
theorem cv_RL_184 : mi_cV pP RL 184 kX8_digest 0 := ⟨cwX8_digest _ _, pT_mem 298 (by decide +kernel) (by decide +kernel), pT_mem 299 (by decide +kernel) (by decide +kernel), pT_mem 300 (by decide +kernel) (by decide +kernel)⟩
theorem cv_RX8_327 : mi_cV pP RX8 327 kX8_many 1 := ⟨cwX8_many _ _, pT_mem 304 (by decide +kernel) (by decide +kernel), pT_mem 305 (by decide +kernel) (by decide +kernel), pT_mem 306 (by decide +kernel) (by decide +kernel)⟩
theorem cv_RX8_295 : mi_cV pP RX8 295 kX8_writtenOf 1 := ⟨cwX8_writtenOf _ _, pT_mem 308 (by decide +kernel) (by decide +kernel), pT_mem 310 (by decide +kernel) (by decide +kernel), pT_mem 0 (by decide +kernel) (by decide +kernel)⟩
theorem cv_RX8_330 : mi_cV pP RX8 330 kX8_digestTracks 1 := ⟨cwX8_digestTracks _ _, pT_mem 380 (by decide +kernel) (by decide +kernel), pT_mem 382 (by decide +kernel) (by decide +kernel), pT_mem 2 (by decide +kernel) (by decide +kernel)⟩
theorem cv_RX8_340 : mi_cV pP RX8 340 kX8_ofTrack 2 := ⟨cwX8_ofTrack _ _, pT_mem 384 (by decide +kernel) (by decide +kernel), pT_mem 385 (by decide +kernel) (by decide +kernel), pT_mem 386 (by decide +kernel) (by decide +kernel)⟩
theorem cv_RX8_91 : mi_cV pP RX8 91 kX8_trackAt 1 := ⟨cwX8_trackAt _ _, pT_mem 388 (by decide +kernel) (by decide +kernel), pT_mem 390 (by decide +kernel) (by decide +kernel), pT_mem 3 (by decide +kernel) (by decide +kernel)⟩
theorem cv_RX8_266 : mi_cV pP RX8 266 kX8_goodFrom 2 := ⟨cwX8_goodFrom _ _, pT_mem 408 (by decide +kernel) (by decide +kernel), pT_mem 410 (by decide +kernel) (by decide +kernel), pT_mem 4 (by decide +kernel) (by decide +kernel)⟩
theorem cv_RX8_360 : mi_cV pP RX8 360 kX8_isGood 1 := ⟨cwX8_isGood _ _, pT_mem 412 (by decide +kernel) (by decide +kernel), pT_mem 414 (by decide +kernel) (by decide +kernel), pT_mem 5 (by decide +kernel) (by decide +kernel)⟩
theorem cs_RX8_136 : mi_cS pP RX8 136 kX8_isSector 1 := ⟨cwX8_isSector _ _, pT_mem 416 (by decide +kernel) (by decide +kernel), pT_mem 417 (by decide +kernel) (by decide +kernel)⟩
theorem cv_RX8_334 : mi_cV pP RX8 334 kX8_digestSectors 1 := ⟨cwX8_digestSectors _ _, pT_mem 420 (by decide +kernel) (by decide +kernel), pT_mem 422 (by decide +kernel) (by decide +kernel), pT_mem 6 (by decide +kernel) (by decide +kernel)⟩
theorem cv_RX8_343 : mi_cV pP RX8 343 kX8_ofSector 2 := ⟨cwX8_ofSector _ _, pT_mem 424 (by decide +kernel) (by decide +kernel), pT_mem 425 (by decide +kernel) (by decide +kernel), pT_mem 426 (by decide +kernel) (by decide +kernel)⟩
theorem cs_RX8_188 : mi_cS pP RX8 188 kX8_checkSector 1 := ⟨cwX8_checkSector _ _, pT_mem 428 (by decide +kernel) (by decide +kernel), pT_mem 429 (by decide +kernel) (by decide +kernel)⟩
theorem cv_RX8_142 : mi_cV pP RX8 142 kX8_trackOf 1 := ⟨cwX8_trackOf _ _, pT_mem 432 (by decide +kernel) (by decide +kernel), pT_mem 434 (by decide +kernel) (by decide +kernel), pT_mem 7 (by decide +kernel) (by decide +kernel)⟩
theorem cv_RX8_146 : mi_cV pP RX8 146 kX7_holds 1 := ⟨cwX7_holds _ _, pT_mem 436 (by decide +kernel) (by decide +kernel), pT_mem 437 (by decide +kernel) (by decide +kernel), pT_mem 438 (by decide +kernel) (by decide +kernel)⟩
theorem cv_RX7_34 : mi_cV pP RX7 34 kX7_behind 0 := ⟨cwX7_behind _ _, pT_mem 440 (by decide +kernel) (by decide +kernel), pT_mem 441 (by decide +kernel) (by decide +kernel), pT_mem 442 (by decide +kernel) (by decide +kernel)⟩
theorem cs_RX8_219 : mi_cS pP RX8 219 kJ6_bitCount_0f7a4 1 := ⟨cwJ6_bitCount_0f7a4 _ _, pT_mem 444 (by decide +kernel) (by decide +kernel), pT_mem 445 (by decide +kernel) (by decide +kernel)⟩
theorem cs_RX8_160 : mi_cS pP RX8 160 kX6_turnOf 1 := ⟨cwX6_turnOf _ _, pT_mem 450 (by decide +kernel) (by decide +kernel), pT_mem 451 (by decide +kernel) (by decide +kernel)⟩
theorem cs_RX6_13 : mi_cS pP RX6 13 kX6_zoneOf 1 := ⟨cwX6_zoneOf _ _, pT_mem 453 (by decide +kernel) (by decide +kernel), pT_mem 454 (by decide +kernel) (by decide +kernel)⟩
theorem cs_RX8_233 : mi_cS pP RX8 233 kX6_positionOf 1 := ⟨cwX6_positionOf _ _, pT_mem 460 (by decide +kernel) (by decide +kernel), pT_mem 461 (by decide +kernel) (by decide +kernel)⟩
theorem cv_RX8_346 : mi_cV pP RX8 346 kX8_nibbles 2 := ⟨cwX8_nibbles _ _, pT_mem 464 (by decide +kernel) (by decide +kernel), pT_mem 465 (by decide +kernel) (by decide +kernel), pT_mem 466 (by decide +kernel) (by decide +kernel)⟩
theorem cv_RX8_242 : mi_cV pP RX8 242 kX5_raw 0 := ⟨cwX5_raw _ _, pT_mem 468 (by decide +kernel) (by decide +kernel), pT_mem 469 (by decide +kernel) (by decide +kernel), pT_mem 470 (by decide +kernel) (by decide +kernel)⟩
theorem cv_RX5_82 : mi_cV pP RX5 82 kX1_gathered 0 := ⟨cwX1_gathered _ _, pT_mem 472 (by decide +kernel) (by decide +kernel), pT_mem 473 (by decide +kernel) (by decide +kernel), pT_mem 474 (by decide +kernel) (by decide +kernel)⟩
theorem cs_RX1_31 : mi_cS pP RX1 31 kX1_placeOf 1 := ⟨cwX1_placeOf _ _, pT_mem 476 (by decide +kernel) (by decide +kernel), pT_mem 477 (by decide +kernel) (by decide +kernel)⟩
theorem cv_RX1_38 : mi_cV pP RX1 38 kX1_valueAt 1 := ⟨cwX1_valueAt _ _, pT_mem 479 (by decide +kernel) (by decide +kernel), pT_mem 480 (by decide +kernel) (by decide +kernel), pT_mem 481 (by decide +kernel) (by decide +kernel)⟩
theorem cv_RX5_54 : mi_cV pP RX5 54 kX5_mixed 1 := ⟨cwX5_mixed _ _, pT_mem 483 (by decide +kernel) (by decide +kernel), pT_mem 485 (by decide +kernel) (by decide +kernel), pT_mem 8 (by decide +kernel) (by decide +kernel)⟩
theorem cv_RX8_337 : mi_cV pP RX8 337 kX8_digestFiles 1 := ⟨cwX8_digestFiles _ _, pT_mem 487 (by decide +kernel) (by decide +kernel), pT_mem 489 (by decide +kernel) (by decide +kernel), pT_mem 9 (by decide +kernel) (by decide +kernel)⟩
theorem cv_RX8_350 : mi_cV pP RX8 350 kX8_ofFile 3 := ⟨cwX8_ofFile _ _, pT_mem 491 (by decide +kernel) (by decide +kernel), pT_mem 492 (by decide +kernel) (by decide +kernel), pT_mem 493 (by decide +kernel) (by decide +kernel)⟩
theorem cs_RX8_133 : mi_cS pP RX8 133 kX8_checkFile 1 := ⟨cwX8_checkFile _ _, pT_mem 495 (by decide +kernel) (by decide +kernel), pT_mem 496 (by decide +kernel) (by decide +kernel)⟩
theorem cv_RX8_276 : mi_cV pP RX8 276 kX3_tellerOf 2 := ⟨cwX3_tellerOf _ _, pT_mem 501 (by decide +kernel) (by decide +kernel), pT_mem 502 (by decide +kernel) (by decide +kernel), pT_mem 503 (by decide +kernel) (by decide +kernel)⟩
theorem cv_RX8_279 : mi_cV pP RX8 279 kX3_firstOf 2 := ⟨cwX3_firstOf _ _, pT_mem 505 (by decide +kernel) (by decide +kernel), pT_mem 506 (by decide +kernel) (by decide +kernel), pT_mem 507 (by decide +kernel) (by decide +kernel)⟩
theorem cv_RX8_282 : mi_cV pP RX8 282 kX3_lengthOf 2 := ⟨cwX3_lengthOf _ _, pT_mem 509 (by decide +kernel) (by decide +kernel), pT_mem 510 (by decide +kernel) (by decide +kernel), pT_mem 511 (by decide +kernel) (by decide +kernel)⟩
theorem cv_RL_7 : mi_cV pP RL 7 kX8_session 0 := ⟨cwX8_session _ _, pT_mem 517 (by decide +kernel) (by decide +kernel), pT_mem 518 (by decide +kernel) (by decide +kernel), pT_mem 519 (by decide +kernel) (by decide +kernel)⟩
theorem cv_RX8_63 : mi_cV pP RX8 63 kX8_left 0 := ⟨cwX8_left _ _, pT_mem 521 (by decide +kernel) (by decide +kernel), pT_mem 523 (by decide +kernel) (by decide +kernel), pT_mem 10 (by decide +kernel) (by decide +kernel)⟩
theorem cv_RL_15 : mi_cV pP RL 15 kX8_track 2 := ⟨cwX8_track _ _, pT_mem 545 (by decide +kernel) (by decide +kernel), pT_mem 546 (by decide +kernel) (by decide +kernel), pT_mem 547 (by decide +kernel) (by decide +kernel)⟩
theorem cv_RX8_81 : mi_cV pP RX8 81 kX7_reserve 4 := ⟨cwX7_reserve _ _, pT_mem 551 (by decide +kernel) (by decide +kernel), pT_mem 552 (by decide +kernel) (by decide +kernel), pT_mem 553 (by decide +kernel) (by decide +kernel)⟩
theorem cv_RX8_85 : mi_cV pP RX8 85 kX7_behind 0 := ⟨cwX7_behind _ _, pT_mem 555 (by decide +kernel) (by decide +kernel), pT_mem 441 (by decide +kernel) (by decide +kernel), pT_mem 442 (by decide +kernel) (by decide +kernel)⟩
theorem cv_RL_21 : mi_cV pP RL 21 kX8_write 2 := ⟨cwX8_write _ _, pT_mem 560 (by decide +kernel) (by decide +kernel), pT_mem 561 (by decide +kernel) (by decide +kernel), pT_mem 562 (by decide +kernel) (by decide +kernel)⟩
theorem cv_RX8_99 : mi_cV pP RX8 99 kX7_hasRoom 0 := ⟨cwX7_hasRoom _ _, pT_mem 566 (by decide +kernel) (by decide +kernel), pT_mem 567 (by decide +kernel) (by decide +kernel), pT_mem 568 (by decide +kernel) (by decide +kernel)⟩
theorem cv_RX8_105 : mi_cV pP RX8 105 kX7_takeNext 0 := ⟨cwX7_takeNext _ _, pT_mem 571 (by decide +kernel) (by decide +kernel), pT_mem 572 (by decide +kernel) (by decide +kernel), pT_mem 573 (by decide +kernel) (by decide +kernel)⟩
theorem cv_RX8_111 : mi_cV pP RX8 111 kX5_fillWith 3 := ⟨cwX5_fillWith _ _, pT_mem 575 (by decide +kernel) (by decide +kernel), pT_mem 576 (by decide +kernel) (by decide +kernel), pT_mem 577 (by decide +kernel) (by decide +kernel)⟩
theorem cs_RX5_50 : mi_cS pP RX5 50 kX5_sumOf 1 := ⟨cwX5_sumOf _ _, pT_mem 579 (by decide +kernel) (by decide +kernel), pT_mem 580 (by decide +kernel) (by decide +kernel)⟩
theorem cs_RX5_86 : mi_cS pP RX5 86 kX5_nibbleOf 2 := ⟨cwX5_nibbleOf _ _, pT_mem 582 (by decide +kernel) (by decide +kernel), pT_mem 583 (by decide +kernel) (by decide +kernel)⟩
theorem cv_RX5_58 : mi_cV pP RX5 58 kX1_spread 1 := ⟨cwX1_spread _ _, pT_mem 585 (by decide +kernel) (by decide +kernel), pT_mem 586 (by decide +kernel) (by decide +kernel), pT_mem 587 (by decide +kernel) (by decide +kernel)⟩
theorem cv_RX1_27 : mi_cV pP RX1 27 kX1_put 2 := ⟨cwX1_put _ _, pT_mem 589 (by decide +kernel) (by decide +kernel), pT_mem 590 (by decide +kernel) (by decide +kernel), pT_mem 591 (by decide +kernel) (by decide +kernel)⟩
theorem cv_RX1_35 : mi_cV pP RX1 35 kX1_parityOf 1 := ⟨cwX1_parityOf _ _, pT_mem 595 (by decide +kernel) (by decide +kernel), pT_mem 597 (by decide +kernel) (by decide +kernel), pT_mem 11 (by decide +kernel) (by decide +kernel)⟩
theorem cv_RX5_62 : mi_cV pP RX5 62 kX5_reckon 1 := ⟨cwX5_reckon _ _, pT_mem 599 (by decide +kernel) (by decide +kernel), pT_mem 601 (by decide +kernel) (by decide +kernel), pT_mem 12 (by decide +kernel) (by decide +kernel)⟩
theorem cv_RX5_90 : mi_cV pP RX5 90 kX1_copyFrom 1 := ⟨cwX1_copyFrom _ _, pT_mem 603 (by decide +kernel) (by decide +kernel), pT_mem 604 (by decide +kernel) (by decide +kernel), pT_mem 605 (by decide +kernel) (by decide +kernel)⟩
theorem cv_RX5_94 : mi_cV pP RX5 94 kX1_mend 0 := ⟨cwX1_mend _ _, pT_mem 607 (by decide +kernel) (by decide +kernel), pT_mem 608 (by decide +kernel) (by decide +kernel), pT_mem 609 (by decide +kernel) (by decide +kernel)⟩
theorem cv_RX1_41 : mi_cV pP RX1 41 kX1_fillErased 0 := ⟨cwX1_fillErased _ _, pT_mem 611 (by decide +kernel) (by decide +kernel), pT_mem 613 (by decide +kernel) (by decide +kernel), pT_mem 13 (by decide +kernel) (by decide +kernel)⟩
theorem cs_RX1_51 : mi_cS pP RX1 51 kJ6_bitCount_0f7a4 1 := ⟨cwJ6_bitCount_0f7a4 _ _, pT_mem 617 (by decide +kernel) (by decide +kernel), pT_mem 445 (by decide +kernel) (by decide +kernel)⟩
theorem cs_RX1_56 : mi_cS pP RX1 56 kJ6_numberOfTrailingZeros_0f7a4 1 := ⟨cwJ6_numberOfTrailingZeros_0f7a4 _ _, pT_mem 618 (by decide +kernel) (by decide +kernel), pT_mem 619 (by decide +kernel) (by decide +kernel)⟩
theorem cv_RX1_44 : mi_cV pP RX1 44 kX1_onlyOddOf 1 := ⟨cwX1_onlyOddOf _ _, pT_mem 622 (by decide +kernel) (by decide +kernel), pT_mem 624 (by decide +kernel) (by decide +kernel), pT_mem 14 (by decide +kernel) (by decide +kernel)⟩
theorem cv_RX5_97 : mi_cV pP RX5 97 kX5_judged 1 := ⟨cwX5_judged _ _, pT_mem 626 (by decide +kernel) (by decide +kernel), pT_mem 628 (by decide +kernel) (by decide +kernel), pT_mem 15 (by decide +kernel) (by decide +kernel)⟩
theorem cv_RX5_121 : mi_cV pP RX5 121 kX1_isEven 0 := ⟨cwX1_isEven _ _, pT_mem 630 (by decide +kernel) (by decide +kernel), pT_mem 631 (by decide +kernel) (by decide +kernel), pT_mem 632 (by decide +kernel) (by decide +kernel)⟩
theorem cv_RX5_110 : mi_cV pP RX5 110 kX4_mark 1 := ⟨cwX4_mark _ _, pT_mem 634 (by decide +kernel) (by decide +kernel), pT_mem 635 (by decide +kernel) (by decide +kernel), pT_mem 636 (by decide +kernel) (by decide +kernel)⟩
theorem cv_RX4_28 : mi_cV pP RX4 28 kX1_valueAt 1 := ⟨cwX1_valueAt _ _, pT_mem 640 (by decide +kernel) (by decide +kernel), pT_mem 480 (by decide +kernel) (by decide +kernel), pT_mem 481 (by decide +kernel) (by decide +kernel)⟩
theorem cv_RX4_32 : mi_cV pP RX4 32 kX4_isJoined 2 := ⟨cwX4_isJoined _ _, pT_mem 641 (by decide +kernel) (by decide +kernel), pT_mem 643 (by decide +kernel) (by decide +kernel), pT_mem 16 (by decide +kernel) (by decide +kernel)⟩
theorem cv_RX4_40 : mi_cV pP RX4 40 kX4_dsvBehind 1 := ⟨cwX4_dsvBehind _ _, pT_mem 645 (by decide +kernel) (by decide +kernel), pT_mem 647 (by decide +kernel) (by decide +kernel), pT_mem 17 (by decide +kernel) (by decide +kernel)⟩
theorem cs_RX4_43 : mi_cS pP RX4 43 kJ9_abs_0f7a4 1 := ⟨cwJ9_abs_0f7a4 _ _, pT_mem 649 (by decide +kernel) (by decide +kernel), pT_mem 650 (by decide +kernel) (by decide +kernel)⟩
theorem cv_RX4_36 : mi_cV pP RX4 36 kX4_putBits 1 := ⟨cwX4_putBits _ _, pT_mem 652 (by decide +kernel) (by decide +kernel), pT_mem 654 (by decide +kernel) (by decide +kernel), pT_mem 18 (by decide +kernel) (by decide +kernel)⟩
theorem cs_RX4_48 : mi_cS pP RX4 48 kJ9_max_7cf53 2 := ⟨cwJ9_max_7cf53 _ _, pT_mem 656 (by decide +kernel) (by decide +kernel), pT_mem 657 (by decide +kernel) (by decide +kernel)⟩
theorem cv_RL_27 : mi_cV pP RL 27 kX8_starve 1 := ⟨cwX8_starve _ _, pT_mem 662 (by decide +kernel) (by decide +kernel), pT_mem 663 (by decide +kernel) (by decide +kernel), pT_mem 664 (by decide +kernel) (by decide +kernel)⟩
theorem cv_RL_31 : mi_cV pP RL 31 kX8_close 1 := ⟨cwX8_close _ _, pT_mem 670 (by decide +kernel) (by decide +kernel), pT_mem 671 (by decide +kernel) (by decide +kernel), pT_mem 672 (by decide +kernel) (by decide +kernel)⟩
theorem cv_RX8_125 : mi_cV pP RX8 125 kX7_giveBack 0 := ⟨cwX7_giveBack _ _, pT_mem 675 (by decide +kernel) (by decide +kernel), pT_mem 676 (by decide +kernel) (by decide +kernel), pT_mem 677 (by decide +kernel) (by decide +kernel)⟩
theorem cv_RL_34 : mi_cV pP RL 34 kX8_end 0 := ⟨cwX8_end _ _, pT_mem 682 (by decide +kernel) (by decide +kernel), pT_mem 683 (by decide +kernel) (by decide +kernel), pT_mem 684 (by decide +kernel) (by decide +kernel)⟩
theorem cv_RX8_128 : mi_cV pP RX8 128 kX8_hasOpenTrack 0 := ⟨cwX8_hasOpenTrack _ _, pT_mem 686 (by decide +kernel) (by decide +kernel), pT_mem 688 (by decide +kernel) (by decide +kernel), pT_mem 19 (by decide +kernel) (by decide +kernel)⟩
theorem cv_RL_37 : mi_cV pP RL 37 kX8_file 3 := ⟨cwX8_file _ _, pT_mem 694 (by decide +kernel) (by decide +kernel), pT_mem 695 (by decide +kernel) (by decide +kernel), pT_mem 696 (by decide +kernel) (by decide +kernel)⟩
theorem cv_RX8_153 : mi_cV pP RX8 153 kX3_tell 4 := ⟨cwX3_tell _ _, pT_mem 701 (by decide +kernel) (by decide +kernel), pT_mem 702 (by decide +kernel) (by decide +kernel), pT_mem 703 (by decide +kernel) (by decide +kernel)⟩
theorem cv_RL_41 : mi_cV pP RL 41 kX8_scratch 4 := ⟨cwX8_scratch _ _, pT_mem 708 (by decide +kernel) (by decide +kernel), pT_mem 709 (by decide +kernel) (by decide +kernel), pT_mem 710 (by decide +kernel) (by decide +kernel)⟩
theorem cs_RX8_165 : mi_cS pP RX8 165 kX6_angleOf 1 := ⟨cwX6_angleOf _ _, pT_mem 714 (by decide +kernel) (by decide +kernel), pT_mem 715 (by decide +kernel) (by decide +kernel)⟩
theorem cv_RX8_172 : mi_cV pP RX8 172 kX5_eraseColumn 3 := ⟨cwX5_eraseColumn _ _, pT_mem 718 (by decide +kernel) (by decide +kernel), pT_mem 719 (by decide +kernel) (by decide +kernel), pT_mem 720 (by decide +kernel) (by decide +kernel)⟩
theorem cv_RX5_66 : mi_cV pP RX5 66 kX1_erase 1 := ⟨cwX1_erase _ _, pT_mem 722 (by decide +kernel) (by decide +kernel), pT_mem 723 (by decide +kernel) (by decide +kernel), pT_mem 724 (by decide +kernel) (by decide +kernel)⟩
theorem cv_RX1_23 : mi_cV pP RX1 23 kX1_isErased 1 := ⟨cwX1_isErased _ _, pT_mem 726 (by decide +kernel) (by decide +kernel), pT_mem 727 (by decide +kernel) (by decide +kernel), pT_mem 728 (by decide +kernel) (by decide +kernel)⟩
theorem cv_RL_45 : mi_cV pP RL 45 kX8_rot 1 := ⟨cwX8_rot _ _, pT_mem 733 (by decide +kernel) (by decide +kernel), pT_mem 734 (by decide +kernel) (by decide +kernel), pT_mem 735 (by decide +kernel) (by decide +kernel)⟩
theorem cv_RX8_178 : mi_cV pP RX8 178 kX5_makeWrong 3 := ⟨cwX5_makeWrong _ _, pT_mem 738 (by decide +kernel) (by decide +kernel), pT_mem 739 (by decide +kernel) (by decide +kernel), pT_mem 740 (by decide +kernel) (by decide +kernel)⟩
theorem cv_RX5_70 : mi_cV pP RX5 70 kX1_isErased 1 := ⟨cwX1_isErased _ _, pT_mem 742 (by decide +kernel) (by decide +kernel), pT_mem 727 (by decide +kernel) (by decide +kernel), pT_mem 728 (by decide +kernel) (by decide +kernel)⟩
theorem cv_RX5_74 : mi_cV pP RX5 74 kX1_valueAt 1 := ⟨cwX1_valueAt _ _, pT_mem 743 (by decide +kernel) (by decide +kernel), pT_mem 480 (by decide +kernel) (by decide +kernel), pT_mem 481 (by decide +kernel) (by decide +kernel)⟩
theorem cv_RX5_78 : mi_cV pP RX5 78 kX1_put 2 := ⟨cwX1_put _ _, pT_mem 744 (by decide +kernel) (by decide +kernel), pT_mem 590 (by decide +kernel) (by decide +kernel), pT_mem 591 (by decide +kernel) (by decide +kernel)⟩
theorem cv_RL_48 : mi_cV pP RL 48 kX8_read 1 := ⟨cwX8_read _ _, pT_mem 748 (by decide +kernel) (by decide +kernel), pT_mem 749 (by decide +kernel) (by decide +kernel), pT_mem 750 (by decide +kernel) (by decide +kernel)⟩
theorem cv_RX8_193 : mi_cV pP RX8 193 kX2_passOver 1 := ⟨cwX2_passOver _ _, pT_mem 753 (by decide +kernel) (by decide +kernel), pT_mem 754 (by decide +kernel) (by decide +kernel), pT_mem 755 (by decide +kernel) (by decide +kernel)⟩
theorem cs_RX2_70 : mi_cS pP RX2 70 kX2_clockBehind 3 := ⟨cwX2_clockBehind _ _, pT_mem 757 (by decide +kernel) (by decide +kernel), pT_mem 758 (by decide +kernel) (by decide +kernel)⟩
theorem cs_RX2_56 : mi_cS pP RX2 56 kX2_seekTime 2 := ⟨cwX2_seekTime _ _, pT_mem 760 (by decide +kernel) (by decide +kernel), pT_mem 761 (by decide +kernel) (by decide +kernel)⟩
theorem cs_RX2_33 : mi_cS pP RX2 33 kX6_turnOf 1 := ⟨cwX6_turnOf _ _, pT_mem 765 (by decide +kernel) (by decide +kernel), pT_mem 451 (by decide +kernel) (by decide +kernel)⟩
theorem cs_RX2_39 : mi_cS pP RX2 39 kJ9_abs_0f7a4 1 := ⟨cwJ9_abs_0f7a4 _ _, pT_mem 766 (by decide +kernel) (by decide +kernel), pT_mem 650 (by decide +kernel) (by decide +kernel)⟩
theorem cs_RX2_44 : mi_cS pP RX2 44 kX6_angleOf 1 := ⟨cwX6_angleOf _ _, pT_mem 767 (by decide +kernel) (by decide +kernel), pT_mem 715 (by decide +kernel) (by decide +kernel)⟩
theorem cs_RX2_50 : mi_cS pP RX2 50 kX2_restOfTurn 1 := ⟨cwX2_restOfTurn _ _, pT_mem 769 (by decide +kernel) (by decide +kernel), pT_mem 770 (by decide +kernel) (by decide +kernel)⟩
theorem cs_RX2_62 : mi_cS pP RX2 62 kX6_speedOf 1 := ⟨cwX6_speedOf _ _, pT_mem 774 (by decide +kernel) (by decide +kernel), pT_mem 775 (by decide +kernel) (by decide +kernel)⟩
theorem cs_RX2_74 : mi_cS pP RX2 74 kX2_headBehind 1 := ⟨cwX2_headBehind _ _, pT_mem 779 (by decide +kernel) (by decide +kernel), pT_mem 780 (by decide +kernel) (by decide +kernel)⟩
theorem cs_RX2_66 : mi_cS pP RX2 66 kJ9_min_7cf53 2 := ⟨cwJ9_min_7cf53 _ _, pT_mem 782 (by decide +kernel) (by decide +kernel), pT_mem 783 (by decide +kernel) (by decide +kernel)⟩
theorem cv_RL_51 : mi_cV pP RL 51 kX8_seek 1 := ⟨cwX8_seek _ _, pT_mem 788 (by decide +kernel) (by decide +kernel), pT_mem 789 (by decide +kernel) (by decide +kernel), pT_mem 790 (by decide +kernel) (by decide +kernel)⟩
theorem cs_RX8_202 : mi_cS pP RX8 202 kX2_seekTime 2 := ⟨cwX2_seekTime _ _, pT_mem 792 (by decide +kernel) (by decide +kernel), pT_mem 761 (by decide +kernel) (by decide +kernel)⟩
theorem cv_RL_55 : mi_cV pP RL 55 kX8_angle 1 := ⟨cwX8_angle _ _, pT_mem 796 (by decide +kernel) (by decide +kernel), pT_mem 797 (by decide +kernel) (by decide +kernel), pT_mem 798 (by decide +kernel) (by decide +kernel)⟩
theorem cv_RL_58 : mi_cV pP RL 58 kX8_ofSector 2 := ⟨cwX8_ofSector _ _, pT_mem 803 (by decide +kernel) (by decide +kernel), pT_mem 425 (by decide +kernel) (by decide +kernel), pT_mem 426 (by decide +kernel) (by decide +kernel)⟩
theorem cv_RL_61 : mi_cV pP RL 61 kX8_nibbles 2 := ⟨cwX8_nibbles _ _, pT_mem 807 (by decide +kernel) (by decide +kernel), pT_mem 465 (by decide +kernel) (by decide +kernel), pT_mem 466 (by decide +kernel) (by decide +kernel)⟩
theorem cv_RL_65 : mi_cV pP RL 65 kX8_place 2 := ⟨cwX8_place _ _, pT_mem 811 (by decide +kernel) (by decide +kernel), pT_mem 812 (by decide +kernel) (by decide +kernel), pT_mem 813 (by decide +kernel) (by decide +kernel)⟩
theorem cv_RX8_251 : mi_cV pP RX8 251 kX1_isErased 1 := ⟨cwX1_isErased _ _, pT_mem 816 (by decide +kernel) (by decide +kernel), pT_mem 727 (by decide +kernel) (by decide +kernel), pT_mem 728 (by decide +kernel) (by decide +kernel)⟩
theorem cv_RX8_254 : mi_cV pP RX8 254 kX1_valueAt 1 := ⟨cwX1_valueAt _ _, pT_mem 817 (by decide +kernel) (by decide +kernel), pT_mem 480 (by decide +kernel) (by decide +kernel), pT_mem 481 (by decide +kernel) (by decide +kernel)⟩
theorem cv_RL_68 : mi_cV pP RL 68 kX8_ofTrack 2 := ⟨cwX8_ofTrack _ _, pT_mem 821 (by decide +kernel) (by decide +kernel), pT_mem 385 (by decide +kernel) (by decide +kernel), pT_mem 386 (by decide +kernel) (by decide +kernel)⟩
theorem cv_RL_71 : mi_cV pP RL 71 kX8_ofFile 3 := ⟨cwX8_ofFile _ _, pT_mem 825 (by decide +kernel) (by decide +kernel), pT_mem 492 (by decide +kernel) (by decide +kernel), pT_mem 493 (by decide +kernel) (by decide +kernel)⟩
theorem cv_RL_74 : mi_cV pP RL 74 kX8_play 1 := ⟨cwX8_play _ _, pT_mem 829 (by decide +kernel) (by decide +kernel), pT_mem 830 (by decide +kernel) (by decide +kernel), pT_mem 831 (by decide +kernel) (by decide +kernel)⟩
theorem cv_RX8_287 : mi_cV pP RX8 287 kX5_sample 0 := ⟨cwX5_sample _ _, pT_mem 834 (by decide +kernel) (by decide +kernel), pT_mem 835 (by decide +kernel) (by decide +kernel), pT_mem 836 (by decide +kernel) (by decide +kernel)⟩
theorem cv_RX8_291 : mi_cV pP RX8 291 kX8_sampleBetween 3 := ⟨cwX8_sampleBetween _ _, pT_mem 838 (by decide +kernel) (by decide +kernel), pT_mem 840 (by decide +kernel) (by decide +kernel), pT_mem 20 (by decide +kernel) (by decide +kernel)⟩
theorem cv_RL_77 : mi_cV pP RL 77 kX8_many 1 := ⟨cwX8_many _ _, pT_mem 847 (by decide +kernel) (by decide +kernel), pT_mem 305 (by decide +kernel) (by decide +kernel), pT_mem 306 (by decide +kernel) (by decide +kernel)⟩
theorem cv_RL_80 : mi_cV pP RL 80 kX8_wouldTake 2 := ⟨cwX8_wouldTake _ _, pT_mem 851 (by decide +kernel) (by decide +kernel), pT_mem 852 (by decide +kernel) (by decide +kernel), pT_mem 853 (by decide +kernel) (by decide +kernel)⟩
theorem cs_RX8_305 : mi_cS pP RX8 305 kJ9_min_7cf53 2 := ⟨cwJ9_min_7cf53 _ _, pT_mem 856 (by decide +kernel) (by decide +kernel), pT_mem 783 (by decide +kernel) (by decide +kernel)⟩
theorem cv_RX8_310 : mi_cV pP RX8 310 kX2_timeOver 2 := ⟨cwX2_timeOver _ _, pT_mem 857 (by decide +kernel) (by decide +kernel), pT_mem 858 (by decide +kernel) (by decide +kernel), pT_mem 859 (by decide +kernel) (by decide +kernel)⟩
theorem cv_RL_84 : mi_cV pP RL 84 kX8_wouldMend 2 := ⟨cwX8_wouldMend _ _, pT_mem 864 (by decide +kernel) (by decide +kernel), pT_mem 865 (by decide +kernel) (by decide +kernel), pT_mem 866 (by decide +kernel) (by decide +kernel)⟩
theorem cv_RX8_319 : mi_cV pP RX8 319 kX5_stateWithout 2 := ⟨cwX5_stateWithout _ _, pT_mem 870 (by decide +kernel) (by decide +kernel), pT_mem 871 (by decide +kernel) (by decide +kernel), pT_mem 872 (by decide +kernel) (by decide +kernel)⟩
theorem ci_RL_90 : mi_cI pP RL 90 kX9_init 0 := ⟨cwX9_init _ _, rfl, rfl, pT_mem 877 (by decide +kernel) (by decide +kernel), Or.inl (pT_mem 876 (by decide +kernel) (by decide +kernel))⟩
theorem ob_RX9_1 : Jvm.Cond.methodLink RX9 1 objectInit ∈ pP.2.1 := pT_mem 879 (by decide +kernel) (by decide +kernel)
theorem ci_RX9_20 : mi_cI pP RX9 20 kJx4a65c_init_da8c8 0 := ⟨cwJx4a65c_init_da8c8 _ _, rfl, rfl, pT_mem 884 (by decide +kernel) (by decide +kernel), Or.inl (pT_mem 883 (by decide +kernel) (by decide +kernel))⟩
theorem ci_RJx4a65c_1 : mi_cI pP RJx4a65c 1 kJxc12de_init_da8c8 0 := ⟨cwJxc12de_init_da8c8 _ _, rfl, rfl, pT_mem 887 (by decide +kernel) (by decide +kernel), Or.inl (pT_mem 886 (by decide +kernel) (by decide +kernel))⟩
theorem ci_RJxc12de_1 : mi_cI pP RJxc12de 1 kJxa1e45_init_da8c8 0 := ⟨cwJxa1e45_init_da8c8 _ _, rfl, rfl, pT_mem 890 (by decide +kernel) (by decide +kernel), Or.inl (pT_mem 889 (by decide +kernel) (by decide +kernel))⟩
theorem ob_RJxa1e45_1 : Jvm.Cond.methodLink RJxa1e45 1 objectInit ∈ pP.2.1 := pT_mem 892 (by decide +kernel) (by decide +kernel)
theorem cv_RL_97 : mi_cV pP RL 97 kX9_thrown 0 := ⟨cwX9_thrown _ _, pT_mem 956 (by decide +kernel) (by decide +kernel), pT_mem 957 (by decide +kernel) (by decide +kernel), pT_mem 958 (by decide +kernel) (by decide +kernel)⟩
theorem cv_RL_96 : mi_cV pP RL 96 kX9_session 0 := ⟨cwX9_session _ _, pT_mem 960 (by decide +kernel) (by decide +kernel), pT_mem 961 (by decide +kernel) (by decide +kernel), pT_mem 962 (by decide +kernel) (by decide +kernel)⟩
theorem cv_RX9_130 : mi_cV pP RX9 130 kX9_start 2 := ⟨cwX9_start _ _, pT_mem 964 (by decide +kernel) (by decide +kernel), pT_mem 966 (by decide +kernel) (by decide +kernel), pT_mem 21 (by decide +kernel) (by decide +kernel)⟩
theorem cv_RX9_38 : mi_cV pP RX9 38 kX9_refuse 2 := ⟨cwX9_refuse _ _, pT_mem 968 (by decide +kernel) (by decide +kernel), pT_mem 970 (by decide +kernel) (by decide +kernel), pT_mem 22 (by decide +kernel) (by decide +kernel)⟩
theorem cv_RL_103 : mi_cV pP RL 103 kX9_track 2 := ⟨cwX9_track _ _, pT_mem 972 (by decide +kernel) (by decide +kernel), pT_mem 973 (by decide +kernel) (by decide +kernel), pT_mem 974 (by decide +kernel) (by decide +kernel)⟩
theorem cs_RX9_46 : mi_cS pP RX9 46 kX9_isIn 3 := ⟨cwX9_isIn _ _, pT_mem 976 (by decide +kernel) (by decide +kernel), pT_mem 977 (by decide +kernel) (by decide +kernel)⟩
theorem cv_RX9_42 : mi_cV pP RX9 42 kJx4a65c_size_8abf5 0 := ⟨cwJx4a65c_size_8abf5 _ _, pT_mem 979 (by decide +kernel) (by decide +kernel), pT_mem 980 (by decide +kernel) (by decide +kernel), pT_mem 981 (by decide +kernel) (by decide +kernel)⟩
theorem cs_RJ8_194 : mi_cS pP RJ8 194 kJ9_max_7cf53 2 := ⟨cwJ9_max_7cf53 _ _, pT_mem 1002 (by decide +kernel) (by decide +kernel), pT_mem 657 (by decide +kernel) (by decide +kernel)⟩
theorem cs_RJ7_304 : mi_cS pP RJ7 304 kJ9_min_7cf53 2 := ⟨cwJ9_min_7cf53 _ _, pT_mem 1034 (by decide +kernel) (by decide +kernel), pT_mem 783 (by decide +kernel) (by decide +kernel)⟩
theorem cs_RJx4a65c_79 : mi_cS pP RJx4a65c 79 kJ9_max_7cf53 2 := ⟨cwJ9_max_7cf53 _ _, pT_mem 1038 (by decide +kernel) (by decide +kernel), pT_mem 657 (by decide +kernel) (by decide +kernel)⟩
theorem cv_RL_109 : mi_cV pP RL 109 kX9_write 2 := ⟨cwX9_write _ _, pT_mem 1040 (by decide +kernel) (by decide +kernel), pT_mem 1041 (by decide +kernel) (by decide +kernel), pT_mem 1042 (by decide +kernel) (by decide +kernel)⟩
theorem cv_RX9_137 : mi_cV pP RX9 137 kX9_isNoTrack 1 := ⟨cwX9_isNoTrack _ _, pT_mem 1044 (by decide +kernel) (by decide +kernel), pT_mem 1046 (by decide +kernel) (by decide +kernel), pT_mem 26 (by decide +kernel) (by decide +kernel)⟩
theorem cv_RX9_143 : mi_cV pP RX9 143 kX9_isDone 1 := ⟨cwX9_isDone _ _, pT_mem 1049 (by decide +kernel) (by decide +kernel), pT_mem 1051 (by decide +kernel) (by decide +kernel), pT_mem 27 (by decide +kernel) (by decide +kernel)⟩
theorem cs_RX9_146 : mi_cS pP RX9 146 kX9_blockOf 2 := ⟨cwX9_blockOf _ _, pT_mem 1067 (by decide +kernel) (by decide +kernel), pT_mem 1068 (by decide +kernel) (by decide +kernel)⟩
theorem cs_RX9_50 : mi_cS pP RX9 50 kX9_placeOf 1 := ⟨cwX9_placeOf _ _, pT_mem 1070 (by decide +kernel) (by decide +kernel), pT_mem 1071 (by decide +kernel) (by decide +kernel)⟩
theorem cs_RX9_56 : mi_cS pP RX9 56 kX9_mask 2 := ⟨cwX9_mask _ _, pT_mem 1074 (by decide +kernel) (by decide +kernel), pT_mem 1075 (by decide +kernel) (by decide +kernel)⟩
theorem cs_RX9_96 : mi_cS pP RX9 96 kX9_sumOf 1 := ⟨cwX9_sumOf _ _, pT_mem 1077 (by decide +kernel) (by decide +kernel), pT_mem 1078 (by decide +kernel) (by decide +kernel)⟩
theorem cv_RL_113 : mi_cV pP RL 113 kX9_starve 1 := ⟨cwX9_starve _ _, pT_mem 1080 (by decide +kernel) (by decide +kernel), pT_mem 1081 (by decide +kernel) (by decide +kernel), pT_mem 1082 (by decide +kernel) (by decide +kernel)⟩
theorem cv_RL_116 : mi_cV pP RL 116 kX9_close 1 := ⟨cwX9_close _ _, pT_mem 1084 (by decide +kernel) (by decide +kernel), pT_mem 1085 (by decide +kernel) (by decide +kernel), pT_mem 1086 (by decide +kernel) (by decide +kernel)⟩
theorem cv_RL_119 : mi_cV pP RL 119 kX9_end 0 := ⟨cwX9_end _ _, pT_mem 1088 (by decide +kernel) (by decide +kernel), pT_mem 1089 (by decide +kernel) (by decide +kernel), pT_mem 1090 (by decide +kernel) (by decide +kernel)⟩
theorem cv_RX9_150 : mi_cV pP RX9 150 kJx4a65c_iterator_32c93 0 := ⟨cwJx4a65c_iterator_32c93 _ _, pT_mem 1092 (by decide +kernel) (by decide +kernel), pT_mem 1093 (by decide +kernel) (by decide +kernel), pT_mem 1094 (by decide +kernel) (by decide +kernel)⟩
theorem ci_RJx4a65c_269 : mi_cI pP RJx4a65c 269 kJx35411_init_45d68 1 := ⟨cwJx35411_init_45d68 _ _, rfl, rfl, pT_mem 1099 (by decide +kernel) (by decide +kernel), Or.inl (pT_mem 1098 (by decide +kernel) (by decide +kernel))⟩
theorem ob_RJx35411_7 : Jvm.Cond.methodLink RJx35411 7 objectInit ∈ pP.2.1 := pT_mem 1101 (by decide +kernel) (by decide +kernel)
theorem cv_RL_123 : mi_cV pP RL 123 kX9_file 3 := ⟨cwX9_file _ _, pT_mem 1138 (by decide +kernel) (by decide +kernel), pT_mem 1139 (by decide +kernel) (by decide +kernel), pT_mem 1140 (by decide +kernel) (by decide +kernel)⟩
theorem cv_RX9_163 : mi_cV pP RX9 163 kX9_isNoFile 1 := ⟨cwX9_isNoFile _ _, pT_mem 1142 (by decide +kernel) (by decide +kernel), pT_mem 1144 (by decide +kernel) (by decide +kernel), pT_mem 28 (by decide +kernel) (by decide +kernel)⟩
theorem cs_RX9_166 : mi_cS pP RX9 166 kX9_isNoSector 1 := ⟨cwX9_isNoSector _ _, pT_mem 1146 (by decide +kernel) (by decide +kernel), pT_mem 1147 (by decide +kernel) (by decide +kernel)⟩
theorem cv_RL_127 : mi_cV pP RL 127 kX9_scratch 4 := ⟨cwX9_scratch _ _, pT_mem 1149 (by decide +kernel) (by decide +kernel), pT_mem 1150 (by decide +kernel) (by decide +kernel), pT_mem 1151 (by decide +kernel) (by decide +kernel)⟩
theorem cs_RX9_171 : mi_cS pP RX9 171 kX9_turnOf 1 := ⟨cwX9_turnOf _ _, pT_mem 1153 (by decide +kernel) (by decide +kernel), pT_mem 1154 (by decide +kernel) (by decide +kernel)⟩
theorem cs_RX9_174 : mi_cS pP RX9 174 kX9_angleOf 1 := ⟨cwX9_angleOf _ _, pT_mem 1156 (by decide +kernel) (by decide +kernel), pT_mem 1157 (by decide +kernel) (by decide +kernel)⟩
theorem cv_RL_130 : mi_cV pP RL 130 kX9_rot 1 := ⟨cwX9_rot _ _, pT_mem 1160 (by decide +kernel) (by decide +kernel), pT_mem 1161 (by decide +kernel) (by decide +kernel), pT_mem 1162 (by decide +kernel) (by decide +kernel)⟩
theorem cv_RL_135 : mi_cV pP RL 135 kX9_tray 1 := ⟨cwX9_tray _ _, pT_mem 1164 (by decide +kernel) (by decide +kernel), pT_mem 1165 (by decide +kernel) (by decide +kernel), pT_mem 1166 (by decide +kernel) (by decide +kernel)⟩
theorem cv_RL_139 : mi_cV pP RL 139 kX9_push 0 := ⟨cwX9_push _ _, pT_mem 1168 (by decide +kernel) (by decide +kernel), pT_mem 1169 (by decide +kernel) (by decide +kernel), pT_mem 1170 (by decide +kernel) (by decide +kernel)⟩
theorem cv_RL_142 : mi_cV pP RL 142 kX9_read 1 := ⟨cwX9_read _ _, pT_mem 1172 (by decide +kernel) (by decide +kernel), pT_mem 1173 (by decide +kernel) (by decide +kernel), pT_mem 1174 (by decide +kernel) (by decide +kernel)⟩
theorem cs_RX9_204 : mi_cS pP RX9 204 kX9_seekFrom 2 := ⟨cwX9_seekFrom _ _, pT_mem 1176 (by decide +kernel) (by decide +kernel), pT_mem 1177 (by decide +kernel) (by decide +kernel)⟩
theorem cs_RX9_106 : mi_cS pP RX9 106 kJ9_abs_0f7a4 1 := ⟨cwJ9_abs_0f7a4 _ _, pT_mem 1181 (by decide +kernel) (by decide +kernel), pT_mem 650 (by decide +kernel) (by decide +kernel)⟩
theorem cs_RX9_208 : mi_cS pP RX9 208 kX9_readOf 1 := ⟨cwX9_readOf _ _, pT_mem 1183 (by decide +kernel) (by decide +kernel), pT_mem 1184 (by decide +kernel) (by decide +kernel)⟩
theorem cs_RX9_211 : mi_cS pP RX9 211 kX9_behind 1 := ⟨cwX9_behind _ _, pT_mem 1189 (by decide +kernel) (by decide +kernel), pT_mem 1190 (by decide +kernel) (by decide +kernel)⟩
theorem cs_RX9_194 : mi_cS pP RX9 194 kJ9_min_7cf53 2 := ⟨cwJ9_min_7cf53 _ _, pT_mem 1192 (by decide +kernel) (by decide +kernel), pT_mem 783 (by decide +kernel) (by decide +kernel)⟩
theorem cv_RX9_104 : mi_cV pP RX9 104 kX9_worth_ 1 := ⟨cwX9_worth_ _ _, pT_mem 1193 (by decide +kernel) (by decide +kernel), pT_mem 1195 (by decide +kernel) (by decide +kernel), pT_mem 29 (by decide +kernel) (by decide +kernel)⟩
theorem cv_RX9_100 : mi_cV pP RX9 100 kX9_worth 2 := ⟨cwX9_worth _ _, pT_mem 1197 (by decide +kernel) (by decide +kernel), pT_mem 1199 (by decide +kernel) (by decide +kernel), pT_mem 30 (by decide +kernel) (by decide +kernel)⟩
theorem cs_RX9_84 : mi_cS pP RX9 84 kX9_mended 1 := ⟨cwX9_mended _ _, pT_mem 1201 (by decide +kernel) (by decide +kernel), pT_mem 1202 (by decide +kernel) (by decide +kernel)⟩
theorem cs_RX9_76 : mi_cS pP RX9 76 kX9_fill 2 := ⟨cwX9_fill _ _, pT_mem 1205 (by decide +kernel) (by decide +kernel), pT_mem 1206 (by decide +kernel) (by decide +kernel)⟩
theorem cs_RX9_67 : mi_cS pP RX9 67 kX9_at 2 := ⟨cwX9_at _ _, pT_mem 1208 (by decide +kernel) (by decide +kernel), pT_mem 1209 (by decide +kernel) (by decide +kernel)⟩
theorem cs_RX9_80 : mi_cS pP RX9 80 kX9_parity 2 := ⟨cwX9_parity _ _, pT_mem 1211 (by decide +kernel) (by decide +kernel), pT_mem 1212 (by decide +kernel) (by decide +kernel)⟩
theorem cs_RX9_92 : mi_cS pP RX9 92 kX9_nibblesOf 2 := ⟨cwX9_nibblesOf _ _, pT_mem 1214 (by decide +kernel) (by decide +kernel), pT_mem 1215 (by decide +kernel) (by decide +kernel)⟩
theorem cs_RX9_62 : mi_cS pP RX9 62 kJ9_max_7cf53 2 := ⟨cwJ9_max_7cf53 _ _, pT_mem 1218 (by decide +kernel) (by decide +kernel), pT_mem 657 (by decide +kernel) (by decide +kernel)⟩
theorem cv_RL_146 : mi_cV pP RL 146 kX9_seek 1 := ⟨cwX9_seek _ _, pT_mem 1219 (by decide +kernel) (by decide +kernel), pT_mem 1220 (by decide +kernel) (by decide +kernel), pT_mem 1221 (by decide +kernel) (by decide +kernel)⟩
theorem cv_RL_151 : mi_cV pP RL 151 kX9_clock 0 := ⟨cwX9_clock _ _, pT_mem 1223 (by decide +kernel) (by decide +kernel), pT_mem 1224 (by decide +kernel) (by decide +kernel), pT_mem 1225 (by decide +kernel) (by decide +kernel)⟩
theorem cv_RL_154 : mi_cV pP RL 154 kX9_angle 1 := ⟨cwX9_angle _ _, pT_mem 1227 (by decide +kernel) (by decide +kernel), pT_mem 1228 (by decide +kernel) (by decide +kernel), pT_mem 1229 (by decide +kernel) (by decide +kernel)⟩
theorem cv_RL_157 : mi_cV pP RL 157 kX9_ofSector 2 := ⟨cwX9_ofSector _ _, pT_mem 1231 (by decide +kernel) (by decide +kernel), pT_mem 1232 (by decide +kernel) (by decide +kernel), pT_mem 1233 (by decide +kernel) (by decide +kernel)⟩
theorem cv_RX9_224 : mi_cV pP RX9 224 kX9_toldOfSector 2 := ⟨cwX9_toldOfSector _ _, pT_mem 1235 (by decide +kernel) (by decide +kernel), pT_mem 1237 (by decide +kernel) (by decide +kernel), pT_mem 31 (by decide +kernel) (by decide +kernel)⟩
theorem cs_RX9_217 : mi_cS pP RX9 217 kX9_one 1 := ⟨cwX9_one _ _, pT_mem 1239 (by decide +kernel) (by decide +kernel), pT_mem 1240 (by decide +kernel) (by decide +kernel)⟩
theorem cs_RX9_221 : mi_cS pP RX9 221 kX9_marks 1 := ⟨cwX9_marks _ _, pT_mem 1242 (by decide +kernel) (by decide +kernel), pT_mem 1243 (by decide +kernel) (by decide +kernel)⟩
theorem cs_RX9_116 : mi_cS pP RX9 116 kX9_after 3 := ⟨cwX9_after _ _, pT_mem 1247 (by decide +kernel) (by decide +kernel), pT_mem 1248 (by decide +kernel) (by decide +kernel)⟩
theorem cs_RX9_109 : mi_cS pP RX9 109 kX9_bit 2 := ⟨cwX9_bit _ _, pT_mem 1250 (by decide +kernel) (by decide +kernel), pT_mem 1251 (by decide +kernel) (by decide +kernel)⟩
theorem cv_RL_161 : mi_cV pP RL 161 kX9_nibbles 2 := ⟨cwX9_nibbles _ _, pT_mem 1253 (by decide +kernel) (by decide +kernel), pT_mem 1254 (by decide +kernel) (by decide +kernel), pT_mem 1255 (by decide +kernel) (by decide +kernel)⟩
theorem cv_RX9_229 : mi_cV pP RX9 229 kX9_nibblesAt 2 := ⟨cwX9_nibblesAt _ _, pT_mem 1257 (by decide +kernel) (by decide +kernel), pT_mem 1259 (by decide +kernel) (by decide +kernel), pT_mem 32 (by decide +kernel) (by decide +kernel)⟩
theorem cv_RL_164 : mi_cV pP RL 164 kX9_place 2 := ⟨cwX9_place _ _, pT_mem 1262 (by decide +kernel) (by decide +kernel), pT_mem 1263 (by decide +kernel) (by decide +kernel), pT_mem 1264 (by decide +kernel) (by decide +kernel)⟩
theorem cv_RL_167 : mi_cV pP RL 167 kX9_ofTrack 2 := ⟨cwX9_ofTrack _ _, pT_mem 1266 (by decide +kernel) (by decide +kernel), pT_mem 1267 (by decide +kernel) (by decide +kernel), pT_mem 1268 (by decide +kernel) (by decide +kernel)⟩
theorem cv_RX9_236 : mi_cV pP RX9 236 kX9_toldOfTrack 2 := ⟨cwX9_toldOfTrack _ _, pT_mem 1270 (by decide +kernel) (by decide +kernel), pT_mem 1272 (by decide +kernel) (by decide +kernel), pT_mem 33 (by decide +kernel) (by decide +kernel)⟩
theorem cv_RX9_233 : mi_cV pP RX9 233 kX9_isGood 1 := ⟨cwX9_isGood _ _, pT_mem 1274 (by decide +kernel) (by decide +kernel), pT_mem 1276 (by decide +kernel) (by decide +kernel), pT_mem 34 (by decide +kernel) (by decide +kernel)⟩
theorem cv_RL_170 : mi_cV pP RL 170 kX9_ofFile 3 := ⟨cwX9_ofFile _ _, pT_mem 1278 (by decide +kernel) (by decide +kernel), pT_mem 1279 (by decide +kernel) (by decide +kernel), pT_mem 1280 (by decide +kernel) (by decide +kernel)⟩
theorem cv_RX9_239 : mi_cV pP RX9 239 kX9_toldOfFile 3 := ⟨cwX9_toldOfFile _ _, pT_mem 1282 (by decide +kernel) (by decide +kernel), pT_mem 1284 (by decide +kernel) (by decide +kernel), pT_mem 35 (by decide +kernel) (by decide +kernel)⟩
theorem cv_RL_173 : mi_cV pP RL 173 kX9_play 1 := ⟨cwX9_play _ _, pT_mem 1286 (by decide +kernel) (by decide +kernel), pT_mem 1287 (by decide +kernel) (by decide +kernel), pT_mem 1288 (by decide +kernel) (by decide +kernel)⟩
theorem cv_RX9_243 : mi_cV pP RX9 243 kX9_sample 1 := ⟨cwX9_sample _ _, pT_mem 1290 (by decide +kernel) (by decide +kernel), pT_mem 1292 (by decide +kernel) (by decide +kernel), pT_mem 36 (by decide +kernel) (by decide +kernel)⟩
theorem cv_RX9_247 : mi_cV pP RX9 247 kX9_isHeard 2 := ⟨cwX9_isHeard _ _, pT_mem 1294 (by decide +kernel) (by decide +kernel), pT_mem 1296 (by decide +kernel) (by decide +kernel), pT_mem 37 (by decide +kernel) (by decide +kernel)⟩
theorem cv_RL_176 : mi_cV pP RL 176 kX9_many 1 := ⟨cwX9_many _ _, pT_mem 1300 (by decide +kernel) (by decide +kernel), pT_mem 1301 (by decide +kernel) (by decide +kernel), pT_mem 1302 (by decide +kernel) (by decide +kernel)⟩
theorem cv_RX9_253 : mi_cV pP RX9 253 kX9_told 1 := ⟨cwX9_told _ _, pT_mem 1304 (by decide +kernel) (by decide +kernel), pT_mem 1306 (by decide +kernel) (by decide +kernel), pT_mem 38 (by decide +kernel) (by decide +kernel)⟩
theorem cv_RL_180 : mi_cV pP RL 180 kX9_wouldTake 2 := ⟨cwX9_wouldTake _ _, pT_mem 1308 (by decide +kernel) (by decide +kernel), pT_mem 1309 (by decide +kernel) (by decide +kernel), pT_mem 1310 (by decide +kernel) (by decide +kernel)⟩
theorem cv_RL_183 : mi_cV pP RL 183 kX9_wouldMend 2 := ⟨cwX9_wouldMend _ _, pT_mem 1312 (by decide +kernel) (by decide +kernel), pT_mem 1313 (by decide +kernel) (by decide +kernel), pT_mem 1314 (by decide +kernel) (by decide +kernel)⟩
theorem cv_RL_188 : mi_cV pP RL 188 kX9_digest 0 := ⟨cwX9_digest _ _, pT_mem 1317 (by decide +kernel) (by decide +kernel), pT_mem 1318 (by decide +kernel) (by decide +kernel), pT_mem 1319 (by decide +kernel) (by decide +kernel)⟩
theorem cs_RX9_261 : mi_cS pP RX9 261 kX9_add 2 := ⟨cwX9_add _ _, pT_mem 1322 (by decide +kernel) (by decide +kernel), pT_mem 1323 (by decide +kernel) (by decide +kernel)⟩
theorem ob_i : Jvm.Cond.instanceMethod objectInit ∈ pP.2.1 := pT_mem 73 (by decide +kernel) (by decide +kernel)
theorem ob_c : Jvm.Cond.code objectInit ⟨#[0xb1]⟩ 1 none ∈ pP.2.1 := pT_mem 74 (by decide +kernel) (by decide +kernel)
theorem iz_RX8 : Jvm.Cond.initialized RX8 ∈ pP.2.1 := pT_mem 40 (by decide +kernel) (by decide +kernel)
theorem iz_RX3 : Jvm.Cond.initialized RX3 ∈ pP.2.1 := pT_mem 41 (by decide +kernel) (by decide +kernel)
theorem iz_RX2 : Jvm.Cond.initialized RX2 ∈ pP.2.1 := pT_mem 42 (by decide +kernel) (by decide +kernel)
theorem iz_RX0 : Jvm.Cond.initialized RX0 ∈ pP.2.1 := pT_mem 43 (by decide +kernel) (by decide +kernel)
theorem iz_RX1 : Jvm.Cond.initialized RX1 ∈ pP.2.1 := pT_mem 44 (by decide +kernel) (by decide +kernel)
theorem iz_RX4 : Jvm.Cond.initialized RX4 ∈ pP.2.1 := pT_mem 45 (by decide +kernel) (by decide +kernel)
theorem iz_RX5 : Jvm.Cond.initialized RX5 ∈ pP.2.1 := pT_mem 46 (by decide +kernel) (by decide +kernel)
theorem iz_RX7 : Jvm.Cond.initialized RX7 ∈ pP.2.1 := pT_mem 47 (by decide +kernel) (by decide +kernel)
theorem iz_RX9 : Jvm.Cond.initialized RX9 ∈ pP.2.1 := pT_mem 48 (by decide +kernel) (by decide +kernel)
theorem iz_RJx4a65c : Jvm.Cond.initialized RJx4a65c ∈ pP.2.1 := pT_mem 51 (by decide +kernel) (by decide +kernel)
theorem iz_IllegalStateException : Jvm.Cond.initialized "java/lang/IllegalStateException" ∈ pP.2.1 := pT_mem 55 (by decide +kernel) (by decide +kernel)
theorem iz_IllegalArgumentException : Jvm.Cond.initialized "java/lang/IllegalArgumentException" ∈ pP.2.1 := pT_mem 56 (by decide +kernel) (by decide +kernel)
theorem iz_IndexOutOfBoundsException : Jvm.Cond.initialized "java/lang/IndexOutOfBoundsException" ∈ pP.2.1 := pT_mem 61 (by decide +kernel) (by decide +kernel)
theorem iz_RJx35411 : Jvm.Cond.initialized RJx35411 ∈ pP.2.1 := pT_mem 65 (by decide +kernel) (by decide +kernel)
theorem iz_RX6 : Jvm.Cond.initialized RX6 ∈ pP.2.1 := pT_mem 66 (by decide +kernel) (by decide +kernel)
theorem cl_RL_8 : Jvm.Cond.classLink RL 8 RX8 ∈ pP.2.1 := pT_mem 67 (by decide +kernel) (by decide +kernel)
theorem it_RX8 : Jvm.Cond.instantiable RX8 10 ∈ pP.2.1 := pT_mem 68 (by decide +kernel) (by decide +kernel)
theorem cl_RX8_9 : Jvm.Cond.classLink RX8 9 RX5 ∈ pP.2.1 := pT_mem 75 (by decide +kernel) (by decide +kernel)
theorem cl_RX8_15 : Jvm.Cond.classLink RX8 15 RX7 ∈ pP.2.1 := pT_mem 77 (by decide +kernel) (by decide +kernel)
theorem cl_RX8_21 : Jvm.Cond.classLink RX8 21 RX3 ∈ pP.2.1 := pT_mem 79 (by decide +kernel) (by decide +kernel)
theorem it_RX3 : Jvm.Cond.instantiable RX3 2 ∈ pP.2.1 := pT_mem 80 (by decide +kernel) (by decide +kernel)
theorem cl_RX3_9 : Jvm.Cond.classLink RX3 9 ("[" ++ (FieldType.array .int).toString) ∈ pP.2.1 := pT_mem 85 (by decide +kernel) (by decide +kernel)
theorem ac_int : Jvm.Cond.arrayClass .int ∈ pP.2.1 := pT_mem 94 (by decide +kernel) (by decide +kernel)
theorem cl_RX8_28 : Jvm.Cond.classLink RX8 28 RX2 ∈ pP.2.1 := pT_mem 95 (by decide +kernel) (by decide +kernel)
theorem it_RX2 : Jvm.Cond.instantiable RX2 5 ∈ pP.2.1 := pT_mem 96 (by decide +kernel) (by decide +kernel)
theorem cl_RX8_35 : Jvm.Cond.classLink RX8 35 RX0 ∈ pP.2.1 := pT_mem 122 (by decide +kernel) (by decide +kernel)
theorem it_RX0 : Jvm.Cond.instantiable RX0 2 ∈ pP.2.1 := pT_mem 123 (by decide +kernel) (by decide +kernel)
theorem cl_RX0_7 : Jvm.Cond.classLink RX0 7 RX1 ∈ pP.2.1 := pT_mem 128 (by decide +kernel) (by decide +kernel)
theorem it_RX1 : Jvm.Cond.instantiable RX1 2 ∈ pP.2.1 := pT_mem 129 (by decide +kernel) (by decide +kernel)
theorem cl_RX0_16 : Jvm.Cond.classLink RX0 16 RX4 ∈ pP.2.1 := pT_mem 143 (by decide +kernel) (by decide +kernel)
theorem it_RX4 : Jvm.Cond.instantiable RX4 4 ∈ pP.2.1 := pT_mem 144 (by decide +kernel) (by decide +kernel)
theorem it_RX5 : Jvm.Cond.instantiable RX5 10 ∈ pP.2.1 := pT_mem 175 (by decide +kernel) (by decide +kernel)
theorem cl_RX5_9 : Jvm.Cond.classLink RX5 9 RX1 ∈ pP.2.1 := pT_mem 180 (by decide +kernel) (by decide +kernel)
theorem kc_RX5_32 : Jvm.Cond.constantLong RX5 32 (-1 : Int64) ∈ pP.2.1 := pT_mem 182 (by decide +kernel) (by decide +kernel)
theorem it_RX7 : Jvm.Cond.instantiable RX7 7 ∈ pP.2.1 := pT_mem 221 (by decide +kernel) (by decide +kernel)
theorem kc_RX8_323 : Jvm.Cond.constantLong RX8 323 (9600 : Int64) ∈ pP.2.1 := pT_mem 302 (by decide +kernel) (by decide +kernel)
theorem kc_RX8_325 : Jvm.Cond.constantLong RX8 325 (31 : Int64) ∈ pP.2.1 := pT_mem 303 (by decide +kernel) (by decide +kernel)
theorem cl_RX8_74 : Jvm.Cond.classLink RX8 74 "java/lang/IllegalArgumentException" ∈ pP.2.1 := pT_mem 312 (by decide +kernel) (by decide +kernel)
theorem it_IllegalArgumentException : Jvm.Cond.instantiable "java/lang/IllegalArgumentException" 6 ∈ pP.2.1 := pT_mem 313 (by decide +kernel) (by decide +kernel)
theorem ac_byte : Jvm.Cond.arrayClass .byte ∈ pP.2.1 := pT_mem 379 (by decide +kernel) (by decide +kernel)
theorem cl_RX8_246 : Jvm.Cond.classLink RX8 246 "java/lang/IndexOutOfBoundsException" ∈ pP.2.1 := pT_mem 392 (by decide +kernel) (by decide +kernel)
theorem it_IndexOutOfBoundsException : Jvm.Cond.instantiable "java/lang/IndexOutOfBoundsException" 6 ∈ pP.2.1 := pT_mem 393 (by decide +kernel) (by decide +kernel)
theorem kc_RJ6_265 : Jvm.Cond.constant RJ6 265 (1431655765 : Int32) ∈ pP.2.1 := pT_mem 447 (by decide +kernel) (by decide +kernel)
theorem kc_RJ6_266 : Jvm.Cond.constant RJ6 266 (858993459 : Int32) ∈ pP.2.1 := pT_mem 448 (by decide +kernel) (by decide +kernel)
theorem kc_RJ6_267 : Jvm.Cond.constant RJ6 267 (252645135 : Int32) ∈ pP.2.1 := pT_mem 449 (by decide +kernel) (by decide +kernel)
theorem cl_RL_13 : Jvm.Cond.classLink RL 13 "java/lang/IllegalStateException" ∈ pP.2.1 := pT_mem 516 (by decide +kernel) (by decide +kernel)
theorem cl_RX8_67 : Jvm.Cond.classLink RX8 67 "java/lang/IllegalStateException" ∈ pP.2.1 := pT_mem 525 (by decide +kernel) (by decide +kernel)
theorem it_IllegalStateException : Jvm.Cond.instantiable "java/lang/IllegalStateException" 6 ∈ pP.2.1 := pT_mem 526 (by decide +kernel) (by decide +kernel)
theorem cl_RL_19 : Jvm.Cond.classLink RL 19 "java/lang/IllegalArgumentException" ∈ pP.2.1 := pT_mem 544 (by decide +kernel) (by decide +kernel)
theorem cl_RL_25 : Jvm.Cond.classLink RL 25 "java/lang/IndexOutOfBoundsException" ∈ pP.2.1 := pT_mem 559 (by decide +kernel) (by decide +kernel)
theorem kc_RX8_95 : Jvm.Cond.constantLong RX8 95 (68719476735 : Int64) ∈ pP.2.1 := pT_mem 564 (by decide +kernel) (by decide +kernel)
theorem kc_RX1_19 : Jvm.Cond.constantLong RX1 19 (15 : Int64) ∈ pP.2.1 := pT_mem 593 (by decide +kernel) (by decide +kernel)
theorem kc_RX1_21 : Jvm.Cond.constantLong RX1 21 (-1 : Int64) ∈ pP.2.1 := pT_mem 594 (by decide +kernel) (by decide +kernel)
theorem kc_RJ6_264 : Jvm.Cond.constant RJ6 264 (65536 : Int32) ∈ pP.2.1 := pT_mem 621 (by decide +kernel) (by decide +kernel)
theorem kc_RX6_20 : Jvm.Cond.constantDouble RX6 20 (4645040803167600640 : UInt64) ∈ pP.2.1 := pT_mem 717 (by decide +kernel) (by decide +kernel)
theorem kc_RX2_29 : Jvm.Cond.constantDouble RX2 29 (4611686018427387904 : UInt64) ∈ pP.2.1 := pT_mem 763 (by decide +kernel) (by decide +kernel)
theorem kc_RX2_31 : Jvm.Cond.constantDouble RX2 31 (4598175219545276416 : UInt64) ∈ pP.2.1 := pT_mem 764 (by decide +kernel) (by decide +kernel)
theorem kc_RX2_48 : Jvm.Cond.constantDouble RX2 48 (4636033603912859648 : UInt64) ∈ pP.2.1 := pT_mem 768 (by decide +kernel) (by decide +kernel)
theorem kc_RX2_54 : Jvm.Cond.constantDouble RX2 54 (4645040803167600640 : UInt64) ∈ pP.2.1 := pT_mem 772 (by decide +kernel) (by decide +kernel)
theorem kc_RX2_60 : Jvm.Cond.constantDouble RX2 60 (4602678819172646912 : UInt64) ∈ pP.2.1 := pT_mem 773 (by decide +kernel) (by decide +kernel)
theorem kc_RX6_22 : Jvm.Cond.constantFloat RX6 22 (1067450368 : UInt32) ∈ pP.2.1 := pT_mem 777 (by decide +kernel) (by decide +kernel)
theorem kc_RX6_23 : Jvm.Cond.constantFloat RX6 23 (1069547520 : UInt32) ∈ pP.2.1 := pT_mem 778 (by decide +kernel) (by decide +kernel)
theorem kc_RX8_363 : Jvm.Cond.constantFloat RX8 363 (1056964608 : UInt32) ∈ pP.2.1 := pT_mem 842 (by decide +kernel) (by decide +kernel)
theorem kc_RX8_364 : Jvm.Cond.constantFloat RX8 364 (1061158912 : UInt32) ∈ pP.2.1 := pT_mem 843 (by decide +kernel) (by decide +kernel)
theorem kc_RX8_313 : Jvm.Cond.constant RX8 313 (65535 : Int32) ∈ pP.2.1 := pT_mem 868 (by decide +kernel) (by decide +kernel)
theorem cl_RL_88 : Jvm.Cond.classLink RL 88 RX9 ∈ pP.2.1 := pT_mem 874 (by decide +kernel) (by decide +kernel)
theorem it_RX9 : Jvm.Cond.instantiable RX9 15 ∈ pP.2.1 := pT_mem 875 (by decide +kernel) (by decide +kernel)
theorem cl_RX9_9 : Jvm.Cond.classLink RX9 9 (FieldType.array .int).toString ∈ pP.2.1 := pT_mem 880 (by decide +kernel) (by decide +kernel)
theorem cl_RX9_18 : Jvm.Cond.classLink RX9 18 RJx4a65c ∈ pP.2.1 := pT_mem 881 (by decide +kernel) (by decide +kernel)
theorem it_RJx4a65c : Jvm.Cond.instantiable RJx4a65c 3 ∈ pP.2.1 := pT_mem 882 (by decide +kernel) (by decide +kernel)
theorem kc_RJ8_200 : Jvm.Cond.constant RJ8 200 (2147483639 : Int32) ∈ pP.2.1 := pT_mem 1003 (by decide +kernel) (by decide +kernel)
theorem kc_RX9_141 : Jvm.Cond.constantLong RX9 141 (68719476735 : Int64) ∈ pP.2.1 := pT_mem 1048 (by decide +kernel) (by decide +kernel)
theorem kc_RX9_54 : Jvm.Cond.constantLong RX9 54 (15 : Int64) ∈ pP.2.1 := pT_mem 1073 (by decide +kernel) (by decide +kernel)
theorem cl_RJx4a65c_267 : Jvm.Cond.classLink RJx4a65c 267 RJx35411 ∈ pP.2.1 := pT_mem 1096 (by decide +kernel) (by decide +kernel)
theorem it_RJx35411 : Jvm.Cond.instantiable RJx35411 4 ∈ pP.2.1 := pT_mem 1097 (by decide +kernel) (by decide +kernel)
theorem kc_RX9_169 : Jvm.Cond.constantDouble RX9 169 (4645040803167600640 : UInt64) ∈ pP.2.1 := pT_mem 1159 (by decide +kernel) (by decide +kernel)
theorem kc_RX9_184 : Jvm.Cond.constantDouble RX9 184 (4611686018427387904 : UInt64) ∈ pP.2.1 := pT_mem 1179 (by decide +kernel) (by decide +kernel)
theorem kc_RX9_186 : Jvm.Cond.constantDouble RX9 186 (4598175219545276416 : UInt64) ∈ pP.2.1 := pT_mem 1180 (by decide +kernel) (by decide +kernel)
theorem kc_RX9_188 : Jvm.Cond.constantDouble RX9 188 (4636033603912859648 : UInt64) ∈ pP.2.1 := pT_mem 1182 (by decide +kernel) (by decide +kernel)
theorem kc_RX9_190 : Jvm.Cond.constantFloat RX9 190 (1067450368 : UInt32) ∈ pP.2.1 := pT_mem 1186 (by decide +kernel) (by decide +kernel)
theorem kc_RX9_191 : Jvm.Cond.constantFloat RX9 191 (1069547520 : UInt32) ∈ pP.2.1 := pT_mem 1187 (by decide +kernel) (by decide +kernel)
theorem kc_RX9_192 : Jvm.Cond.constantDouble RX9 192 (4602678819172646912 : UInt64) ∈ pP.2.1 := pT_mem 1188 (by decide +kernel) (by decide +kernel)
theorem kc_RX9_60 : Jvm.Cond.constantLong RX9 60 (16 : Int64) ∈ pP.2.1 := pT_mem 1217 (by decide +kernel) (by decide +kernel)
theorem kc_RX9_227 : Jvm.Cond.constantLong RX9 227 (-1 : Int64) ∈ pP.2.1 := pT_mem 1261 (by decide +kernel) (by decide +kernel)
theorem kc_RX9_251 : Jvm.Cond.constantFloat RX9 251 (1056964608 : UInt32) ∈ pP.2.1 := pT_mem 1298 (by decide +kernel) (by decide +kernel)
theorem kc_RX9_252 : Jvm.Cond.constantFloat RX9 252 (1061158912 : UInt32) ∈ pP.2.1 := pT_mem 1299 (by decide +kernel) (by decide +kernel)
theorem kc_RX9_256 : Jvm.Cond.constant RX9 256 (65535 : Int32) ∈ pP.2.1 := pT_mem 1316 (by decide +kernel) (by decide +kernel)
theorem kc_RX9_259 : Jvm.Cond.constantLong RX9 259 (9600 : Int64) ∈ pP.2.1 := pT_mem 1321 (by decide +kernel) (by decide +kernel)
theorem kc_RX9_257 : Jvm.Cond.constantLong RX9 257 (31 : Int64) ∈ pP.2.1 := pT_mem 1325 (by decide +kernel) (by decide +kernel)
theorem kc_RL_104 : Jvm.Cond.constantLong RL 104 (4294967295 : Int64) ∈ pP.2.1 := pT_mem 1326 (by decide +kernel) (by decide +kernel)
theorem ac_long : Jvm.Cond.arrayClass .long ∈ pP.2.1 := pT_mem 1327 (by decide +kernel) (by decide +kernel)
theorem ac_double : Jvm.Cond.arrayClass .double ∈ pP.2.1 := pT_mem 1328 (by decide +kernel) (by decide +kernel)
theorem ca_IllegalArgumentException : ∀ (b0 : Nat) (U : State) (H : Heap), pP.2.2.2.2.2.2.2.2 b0 U H → va_Nw (Jvm.Cond.castable "java/lang/IllegalArgumentException" "java/lang/IllegalArgumentException") U := fun _ _ _ h => h.2.2.2.2.2.1 _ (by simp [pE])
theorem ca_IndexOutOfBoundsException : ∀ (b0 : Nat) (U : State) (H : Heap), pP.2.2.2.2.2.2.2.2 b0 U H → va_Nw (Jvm.Cond.castable "java/lang/IndexOutOfBoundsException" "java/lang/IndexOutOfBoundsException") U := fun _ _ _ h => h.2.2.2.2.2.1 _ (by simp [pE])
theorem ca_IllegalStateException : ∀ (b0 : Nat) (U : State) (H : Heap), pP.2.2.2.2.2.2.2.2 b0 U H → va_Nw (Jvm.Cond.castable "java/lang/IllegalStateException" "java/lang/IllegalStateException") U := fun _ _ _ h => h.2.2.2.2.2.1 _ (by simp [pE])
theorem cFw_RX9_154 : ∀ w ∈ ([.methodLink RX9 154 pF, .selects RJx35411 pF yJx35411_hasNext_aae02, .instanceMethod yJx35411_hasNext_aae02, .initialized RJx35411] : List Cond), w ∈ pP.2.1 := by
  intro w hw
  have h : ([.methodLink RX9 154 pF, .selects RJx35411 pF yJx35411_hasNext_aae02, .instanceMethod yJx35411_hasNext_aae02, .initialized RJx35411] : List Cond).all (fun w => lw_tbl.contains w && goodWord w) = true := by decide +kernel
  have h2 := List.all_eq_true.mp h w hw
  rw [Bool.and_eq_true] at h2
  exact List.mem_filter.mpr ⟨List.contains_iff_mem.mp h2.1, h2.2⟩
theorem cF_RX9_154 : mi_cF pP RX9 154 kJx35411_hasNext_aae02 0 pF := ⟨⟨pT_mem 1124 (by decide +kernel) (by decide +kernel), by decide⟩, cFw_RX9_154, ⟨by decide, by decide, by decide +kernel⟩, fun _ _ _ h => h.2.2.2.2.2.2⟩
theorem fs_RJx35411_17 : mi_fs pP RJx35411 17 13 0 := ⟨RJx4a65c, RJx4a65c, TJx4a65c, 3, tyJx4a65c, cfJx4a65c, by decide, pT_mem 900 (by decide +kernel) (by decide +kernel), pT_mem 901 (by decide +kernel) (by decide +kernel)⟩
theorem xa_67 : ∀ w ∈ Cond.classLink RX8 67 "java/lang/IllegalStateException" :: Cond.initialized "java/lang/IllegalStateException" :: vx_atS RX8 71 "java/lang/IllegalStateException" ["java/lang/RuntimeException", "java/lang/Exception"], (w ∈ pP.2.1 ∨ w.onTables = true ∧ ∀ (b0 : Nat) (U : State) (H : Heap), pP.2.2.2.2.2.2.2.2 b0 U H → va_Nw w U) ∧ vx_ot w = true := by
  intro w hw
  have h : (Cond.classLink RX8 67 "java/lang/IllegalStateException" :: Cond.initialized "java/lang/IllegalStateException" :: vx_atS RX8 71 "java/lang/IllegalStateException" ["java/lang/RuntimeException", "java/lang/Exception"]).all (fun w => ((lw_tbl.contains w && goodWord w) || (pE.contains w && w.onTables)) && vx_ot w) = true := by decide +kernel
  have h2 := List.all_eq_true.mp h w hw
  rw [Bool.and_eq_true, Bool.or_eq_true, Bool.and_eq_true, Bool.and_eq_true] at h2
  refine ⟨h2.1.elim (fun q => Or.inl (List.mem_filter.mpr ⟨List.contains_iff_mem.mp q.1, q.2⟩)) (fun q => Or.inr ⟨q.2, fun _ _ _ hk => hk.2.2.2.2.2.1 w (List.contains_iff_mem.mp q.1)⟩), h2.2⟩
theorem xw_69 : mi_xw pP RX8 67 69 71 10 "java/lang/IllegalStateException" "no SESSION can be opened" ["java/lang/RuntimeException", "java/lang/Exception"] := ⟨⟨rfl, by decide, by decide⟩, xa_67, fun _ _ _ h => ⟨h.1.1, h.1.2, h.2.1 (69, "no SESSION can be opened") (by decide +kernel)⟩⟩
theorem xa_74 : ∀ w ∈ Cond.classLink RX8 74 "java/lang/IllegalArgumentException" :: Cond.initialized "java/lang/IllegalArgumentException" :: vx_atS RX8 78 "java/lang/IllegalArgumentException" ["java/lang/RuntimeException", "java/lang/Exception"], (w ∈ pP.2.1 ∨ w.onTables = true ∧ ∀ (b0 : Nat) (U : State) (H : Heap), pP.2.2.2.2.2.2.2.2 b0 U H → va_Nw w U) ∧ vx_ot w = true := by
  intro w hw
  have h : (Cond.classLink RX8 74 "java/lang/IllegalArgumentException" :: Cond.initialized "java/lang/IllegalArgumentException" :: vx_atS RX8 78 "java/lang/IllegalArgumentException" ["java/lang/RuntimeException", "java/lang/Exception"]).all (fun w => ((lw_tbl.contains w && goodWord w) || (pE.contains w && w.onTables)) && vx_ot w) = true := by decide +kernel
  have h2 := List.all_eq_true.mp h w hw
  rw [Bool.and_eq_true, Bool.or_eq_true, Bool.and_eq_true, Bool.and_eq_true] at h2
  refine ⟨h2.1.elim (fun q => Or.inl (List.mem_filter.mpr ⟨List.contains_iff_mem.mp q.1, q.2⟩)) (fun q => Or.inr ⟨q.2, fun _ _ _ hk => hk.2.2.2.2.2.1 w (List.contains_iff_mem.mp q.1)⟩), h2.2⟩
theorem xw_76 : mi_xw pP RX8 74 76 78 11 "java/lang/IllegalArgumentException" "no such mode, or not 1 to 40 SECTORS" ["java/lang/RuntimeException", "java/lang/Exception"] := ⟨⟨rfl, by decide, by decide⟩, xa_74, fun _ _ _ h => ⟨h.1.1, h.1.2, h.2.1 (76, "no such mode, or not 1 to 40 SECTORS") (by decide +kernel)⟩⟩
theorem xw_79 : mi_xw pP RX8 67 79 71 10 "java/lang/IllegalStateException" "no TRACK can be opened" ["java/lang/RuntimeException", "java/lang/Exception"] := ⟨⟨rfl, by decide, by decide⟩, xa_67, fun _ _ _ h => ⟨h.1.1, h.1.2, h.2.1 (79, "no TRACK can be opened") (by decide +kernel)⟩⟩
theorem xw_97 : mi_xw pP RX8 74 97 78 11 "java/lang/IllegalArgumentException" "not nine NIBBLES" ["java/lang/RuntimeException", "java/lang/Exception"] := ⟨⟨rfl, by decide, by decide⟩, xa_74, fun _ _ _ h => ⟨h.1.1, h.1.2, h.2.1 (97, "not nine NIBBLES") (by decide +kernel)⟩⟩
theorem xw_103 : mi_xw pP RX8 67 103 71 10 "java/lang/IllegalStateException" "the TRACK is CLOSED or full" ["java/lang/RuntimeException", "java/lang/Exception"] := ⟨⟨rfl, by decide, by decide⟩, xa_67, fun _ _ _ h => ⟨h.1.1, h.1.2, h.2.1 (103, "the TRACK is CLOSED or full") (by decide +kernel)⟩⟩
theorem xw_115 : mi_xw pP RX8 67 115 71 10 "java/lang/IllegalStateException" "the TRACK is CLOSED or full, or there is no CALIBRATION" ["java/lang/RuntimeException", "java/lang/Exception"] := ⟨⟨rfl, by decide, by decide⟩, xa_67, fun _ _ _ h => ⟨h.1.1, h.1.2, h.2.1 (115, "the TRACK is CLOSED or full, or there is no CALIBRATION") (by decide +kernel)⟩⟩
theorem xw_123 : mi_xw pP RX8 67 123 71 10 "java/lang/IllegalStateException" "the TRACK is CLOSED" ["java/lang/RuntimeException", "java/lang/Exception"] := ⟨⟨rfl, by decide, by decide⟩, xa_67, fun _ _ _ h => ⟨h.1.1, h.1.2, h.2.1 (123, "the TRACK is CLOSED") (by decide +kernel)⟩⟩
theorem xw_131 : mi_xw pP RX8 67 131 71 10 "java/lang/IllegalStateException" "no SESSION can be CLOSED" ["java/lang/RuntimeException", "java/lang/Exception"] := ⟨⟨rfl, by decide, by decide⟩, xa_67, fun _ _ _ h => ⟨h.1.1, h.1.2, h.2.1 (131, "no SESSION can be CLOSED") (by decide +kernel)⟩⟩
theorem xw_140 : mi_xw pP RX8 74 140 78 11 "java/lang/IllegalArgumentException" "no such SECTOR, or not 1 to 20 SECTORS" ["java/lang/RuntimeException", "java/lang/Exception"] := ⟨⟨rfl, by decide, by decide⟩, xa_74, fun _ _ _ h => ⟨h.1.1, h.1.2, h.2.1 (140, "no such SECTOR, or not 1 to 20 SECTORS") (by decide +kernel)⟩⟩
theorem xw_149 : mi_xw pP RX8 74 149 78 11 "java/lang/IllegalArgumentException" "the FILE is not in one DATA TRACK whole" ["java/lang/RuntimeException", "java/lang/Exception"] := ⟨⟨rfl, by decide, by decide⟩, xa_74, fun _ _ _ h => ⟨h.1.1, h.1.2, h.2.1 (149, "the FILE is not in one DATA TRACK whole") (by decide +kernel)⟩⟩
theorem xw_151 : mi_xw pP RX8 67 151 71 10 "java/lang/IllegalStateException" "no SESSION is open" ["java/lang/RuntimeException", "java/lang/Exception"] := ⟨⟨rfl, by decide, by decide⟩, xa_67, fun _ _ _ h => ⟨h.1.1, h.1.2, h.2.1 (151, "no SESSION is open") (by decide +kernel)⟩⟩
theorem xw_156 : mi_xw pP RX8 74 156 78 11 "java/lang/IllegalArgumentException" "no such turns" ["java/lang/RuntimeException", "java/lang/Exception"] := ⟨⟨rfl, by decide, by decide⟩, xa_74, fun _ _ _ h => ⟨h.1.1, h.1.2, h.2.1 (156, "no such turns") (by decide +kernel)⟩⟩
theorem xw_158 : mi_xw pP RX8 74 158 78 11 "java/lang/IllegalArgumentException" "no such angles" ["java/lang/RuntimeException", "java/lang/Exception"] := ⟨⟨rfl, by decide, by decide⟩, xa_74, fun _ _ _ h => ⟨h.1.1, h.1.2, h.2.1 (158, "no such angles") (by decide +kernel)⟩⟩
theorem xw_176 : mi_xw pP RX8 74 176 78 11 "java/lang/IllegalArgumentException" "not 0 to 999" ["java/lang/RuntimeException", "java/lang/Exception"] := ⟨⟨rfl, by decide, by decide⟩, xa_74, fun _ _ _ h => ⟨h.1.1, h.1.2, h.2.1 (176, "not 0 to 999") (by decide +kernel)⟩⟩
theorem xw_191 : mi_xw pP RX8 67 191 71 10 "java/lang/IllegalStateException" "the TRAY is open" ["java/lang/RuntimeException", "java/lang/Exception"] := ⟨⟨rfl, by decide, by decide⟩, xa_67, fun _ _ _ h => ⟨h.1.1, h.1.2, h.2.1 (191, "the TRAY is open") (by decide +kernel)⟩⟩
theorem xw_236 : mi_xw pP RX8 74 236 78 11 "java/lang/IllegalArgumentException" "not 0 to 8" ["java/lang/RuntimeException", "java/lang/Exception"] := ⟨⟨rfl, by decide, by decide⟩, xa_74, fun _ _ _ h => ⟨h.1.1, h.1.2, h.2.1 (236, "not 0 to 8") (by decide +kernel)⟩⟩
theorem xa_246 : ∀ w ∈ Cond.classLink RX8 246 "java/lang/IndexOutOfBoundsException" :: Cond.initialized "java/lang/IndexOutOfBoundsException" :: vx_atS RX8 250 "java/lang/IndexOutOfBoundsException" ["java/lang/RuntimeException", "java/lang/Exception"], (w ∈ pP.2.1 ∨ w.onTables = true ∧ ∀ (b0 : Nat) (U : State) (H : Heap), pP.2.2.2.2.2.2.2.2 b0 U H → va_Nw w U) ∧ vx_ot w = true := by
  intro w hw
  have h : (Cond.classLink RX8 246 "java/lang/IndexOutOfBoundsException" :: Cond.initialized "java/lang/IndexOutOfBoundsException" :: vx_atS RX8 250 "java/lang/IndexOutOfBoundsException" ["java/lang/RuntimeException", "java/lang/Exception"]).all (fun w => ((lw_tbl.contains w && goodWord w) || (pE.contains w && w.onTables)) && vx_ot w) = true := by decide +kernel
  have h2 := List.all_eq_true.mp h w hw
  rw [Bool.and_eq_true, Bool.or_eq_true, Bool.and_eq_true, Bool.and_eq_true] at h2
  refine ⟨h2.1.elim (fun q => Or.inl (List.mem_filter.mpr ⟨List.contains_iff_mem.mp q.1, q.2⟩)) (fun q => Or.inr ⟨q.2, fun _ _ _ hk => hk.2.2.2.2.2.1 w (List.contains_iff_mem.mp q.1)⟩), h2.2⟩
theorem xw_248 : mi_xw pP RX8 246 248 250 12 "java/lang/IndexOutOfBoundsException" "no such PLACE" ["java/lang/RuntimeException", "java/lang/Exception"] := ⟨⟨rfl, by decide, by decide⟩, xa_246, fun _ _ _ h => ⟨h.1.1, h.1.2, h.2.1 (248, "no such PLACE") (by decide +kernel)⟩⟩
theorem xw_270 : mi_xw pP RX8 74 270 78 11 "java/lang/IllegalArgumentException" "not 0 to 7" ["java/lang/RuntimeException", "java/lang/Exception"] := ⟨⟨rfl, by decide, by decide⟩, xa_74, fun _ _ _ h => ⟨h.1.1, h.1.2, h.2.1 (270, "not 0 to 7") (by decide +kernel)⟩⟩
theorem xw_272 : mi_xw pP RX8 246 272 250 12 "java/lang/IndexOutOfBoundsException" "no such SESSION" ["java/lang/RuntimeException", "java/lang/Exception"] := ⟨⟨rfl, by decide, by decide⟩, xa_246, fun _ _ _ h => ⟨h.1.1, h.1.2, h.2.1 (272, "no such SESSION") (by decide +kernel)⟩⟩
theorem xw_274 : mi_xw pP RX8 74 274 78 11 "java/lang/IllegalArgumentException" "not 0 to 2" ["java/lang/RuntimeException", "java/lang/Exception"] := ⟨⟨rfl, by decide, by decide⟩, xa_74, fun _ _ _ h => ⟨h.1.1, h.1.2, h.2.1 (274, "not 0 to 2") (by decide +kernel)⟩⟩
theorem xw_285 : mi_xw pP RX8 74 285 78 11 "java/lang/IllegalArgumentException" "not of a SOUND TRACK" ["java/lang/RuntimeException", "java/lang/Exception"] := ⟨⟨rfl, by decide, by decide⟩, xa_74, fun _ _ _ h => ⟨h.1.1, h.1.2, h.2.1 (285, "not of a SOUND TRACK") (by decide +kernel)⟩⟩
theorem xw_301 : mi_xw pP RX8 74 301 78 11 "java/lang/IllegalArgumentException" "not 0 to 12" ["java/lang/RuntimeException", "java/lang/Exception"] := ⟨⟨rfl, by decide, by decide⟩, xa_74, fun _ _ _ h => ⟨h.1.1, h.1.2, h.2.1 (301, "not 0 to 12") (by decide +kernel)⟩⟩
theorem xw_303 : mi_xw pP RX8 74 303 78 11 "java/lang/IllegalArgumentException" "not 1 to 40 SECTORS" ["java/lang/RuntimeException", "java/lang/Exception"] := ⟨⟨rfl, by decide, by decide⟩, xa_74, fun _ _ _ h => ⟨h.1.1, h.1.2, h.2.1 (303, "not 1 to 40 SECTORS") (by decide +kernel)⟩⟩
theorem xw_314 : mi_xw pP RX8 74 314 78 11 "java/lang/IllegalArgumentException" "no set of PLACES" ["java/lang/RuntimeException", "java/lang/Exception"] := ⟨⟨rfl, by decide, by decide⟩, xa_74, fun _ _ _ h => ⟨h.1.1, h.1.2, h.2.1 (314, "no set of PLACES") (by decide +kernel)⟩⟩
theorem xw_354 : mi_xw pP RX8 246 354 250 12 "java/lang/IndexOutOfBoundsException" "no such SECTOR" ["java/lang/RuntimeException", "java/lang/Exception"] := ⟨⟨rfl, by decide, by decide⟩, xa_246, fun _ _ _ h => ⟨h.1.1, h.1.2, h.2.1 (354, "no such SECTOR") (by decide +kernel)⟩⟩
theorem xw_356 : mi_xw pP RX8 246 356 250 12 "java/lang/IndexOutOfBoundsException" "no such FILE" ["java/lang/RuntimeException", "java/lang/Exception"] := ⟨⟨rfl, by decide, by decide⟩, xa_246, fun _ _ _ h => ⟨h.1.1, h.1.2, h.2.1 (356, "no such FILE") (by decide +kernel)⟩⟩
theorem xw_358 : mi_xw pP RX8 246 358 250 12 "java/lang/IndexOutOfBoundsException" "no such TRACK" ["java/lang/RuntimeException", "java/lang/Exception"] := ⟨⟨rfl, by decide, by decide⟩, xa_246, fun _ _ _ h => ⟨h.1.1, h.1.2, h.2.1 (358, "no such TRACK") (by decide +kernel)⟩⟩
end
section
def tbX8_init : List (Nat × Instr) := [(0, .aload_n 0), (1, .invokespecial 1), (4, .aload_n 0), (5, .sipush 240), (8, .anewarray 9), (11, .putfield 11), (14, .aload_n 0), (15, .bipush 8), (17, .anewarray 15), (20, .putfield 17), (23, .aload_n 0), (24, .new 21), (27, .dup), (28, .invokespecial 23), (31, .putfield 24), (34, .aload_n 0), (35, .new 28), (38, .dup), (39, .invokespecial 30), (42, .putfield 31), (45, .aload_n 0), (46, .new 35), (49, .dup), (50, .invokespecial 37), (53, .putfield 38), (56, .aload_n 0), (57, .iconst 0), (58, .putfield 42), (61, .aload_n 0), (62, .iconst 0), (63, .putfield 46), (66, .aload_n 0), (67, .iconst 0), (68, .putfield 49), (71, .aload_n 0), (72, .iconst 4), (73, .putfield 52), (76, .aload_n 0), (77, .iconst 0), (78, .putfield 55), (81, .iconst 0), (82, .istore_n 1), (83, .iload_n 1), (84, .sipush 240), (87, .if_icmp .ge 23), (90, .aload_n 0), (91, .getfield 11), (94, .iload_n 1), (95, .new 9), (98, .dup), (99, .iload_n 1), (100, .invokespecial 59), (103, .aastore), (104, .iinc 1 1), (107, .goto (-24)), (110, .iconst 0), (111, .istore_n 1), (112, .iload_n 1), (113, .bipush 8), (115, .if_icmp .ge 22), (118, .aload_n 0), (119, .getfield 17), (122, .iload_n 1), (123, .new 15), (126, .dup), (127, .invokespecial 62), (130, .aastore), (131, .iinc 1 1), (134, .goto (-22)), (137, .return_)]
theorem okX8_init : mi_tb (pP.2.2.2.1 kX8_init).2.1 tbX8_init := mi_tb.of (by decide +kernel)
theorem enX8_init {X : mi_X} {d : Nat} {avs : List Value} {h : mi_H} {mc ms : Nat} {Q : Option Value → mi_H → Prop} (hn : (lg_sl avs).length ≤ (pP.2.2.2.1 kX8_init).2.2.1) (body : mi_W pP X kX8_init d mc ms 0 (lv_args 0 avs) [] h Q) : mi_S pP X kX8_init d avs h mc ms Q := mi_S.of pP_ok rfl (by decide +kernel) hn body
theorem exX8_init {X : mi_X} {d : Nat} {avs : List Value} {h : mi_H} {mc ms : Nat} {Q : Option Value → mi_H → Prop} {QX : Nat → Nat → mi_H → Prop} (hn : (lg_sl avs).length ≤ (pP.2.2.2.1 kX8_init).2.2.1) (body : mi_WX QX pP X kX8_init d mc ms 0 (lv_args 0 avs) [] h Q) : mi_SX pP X kX8_init d avs h mc ms Q QX := mi_SX.of pP_ok rfl (by decide +kernel) hn body
def tbX8_session : List (Nat × Instr) := [(0, .aload_n 0), (1, .getfield 55), (4, .ifCond .ne 26), (7, .aload_n 0), (8, .getfield 42), (11, .iconst 3), (12, .if_icmp .ge 18), (15, .aload_n 0), (16, .getfield 52), (19, .ifCond .le 11), (22, .aload_n 0), (23, .invokevirtual 63), (26, .iconst 4), (27, .if_icmp .ge 13), (30, .new 67), (33, .dup), (34, .ldc 69), (36, .invokespecial 71), (39, .athrow), (40, .aload_n 0), (41, .iconst 1), (42, .putfield 55), (45, .aload_n 0), (46, .dup), (47, .getfield 52), (50, .iconst 1), (51, .isub), (52, .putfield 52), (55, .aload_n 0), (56, .dup), (57, .getfield 49), (60, .iconst 4), (61, .iadd), (62, .putfield 49), (65, .aload_n 0), (66, .dup), (67, .getfield 42), (70, .iconst 1), (71, .iadd), (72, .putfield 42), (75, .aload_n 0), (76, .getfield 42), (79, .iconst 1), (80, .isub), (81, .ireturn)]
theorem okX8_session : mi_tb (pP.2.2.2.1 kX8_session).2.1 tbX8_session := mi_tb.of (by decide +kernel)
theorem enX8_session {X : mi_X} {d : Nat} {avs : List Value} {h : mi_H} {mc ms : Nat} {Q : Option Value → mi_H → Prop} (hn : (lg_sl avs).length ≤ (pP.2.2.2.1 kX8_session).2.2.1) (body : mi_W pP X kX8_session d mc ms 0 (lv_args 0 avs) [] h Q) : mi_S pP X kX8_session d avs h mc ms Q := mi_S.of pP_ok rfl (by decide +kernel) hn body
theorem exX8_session {X : mi_X} {d : Nat} {avs : List Value} {h : mi_H} {mc ms : Nat} {Q : Option Value → mi_H → Prop} {QX : Nat → Nat → mi_H → Prop} (hn : (lg_sl avs).length ≤ (pP.2.2.2.1 kX8_session).2.2.1) (body : mi_WX QX pP X kX8_session d mc ms 0 (lv_args 0 avs) [] h Q) : mi_SX pP X kX8_session d avs h mc ms Q QX := mi_SX.of pP_ok rfl (by decide +kernel) hn body
def tbX8_track : List (Nat × Instr) := [(0, .iload_n 1), (1, .ifCond .eq 8), (4, .iload_n 1), (5, .iconst 1), (6, .if_icmp .ne 14), (9, .iload_n 2), (10, .iconst 1), (11, .if_icmp .lt 9), (14, .iload_n 2), (15, .bipush 40), (17, .if_icmp .le 13), (20, .new 74), (23, .dup), (24, .ldc 76), (26, .invokespecial 78), (29, .athrow), (30, .aload_n 0), (31, .getfield 55), (34, .ifCond .eq 22), (37, .aload_n 0), (38, .getfield 46), (41, .bipush 8), (43, .if_icmp .ge 13), (46, .aload_n 0), (47, .invokevirtual 63), (50, .iconst 2), (51, .iload_n 2), (52, .iadd), (53, .if_icmp .ge 13), (56, .new 67), (59, .dup), (60, .ldc 79), (62, .invokespecial 71), (65, .athrow), (66, .aload_n 0), (67, .getfield 17), (70, .aload_n 0), (71, .getfield 46), (74, .aaload), (75, .astore_n 3), (76, .aload_n 3), (77, .aload_n 0), (78, .getfield 42), (81, .iconst 1), (82, .isub), (83, .iload_n 1), (84, .aload_n 0), (85, .getfield 49), (88, .iconst 2), (89, .iadd), (90, .iload_n 2), (91, .invokevirtual 81), (94, .aload_n 0), (95, .dup), (96, .getfield 46), (99, .iconst 1), (100, .iadd), (101, .putfield 46), (104, .aload_n 0), (105, .aload_n 3), (106, .invokevirtual 85), (109, .putfield 49), (112, .aload_n 3), (113, .getfield 88), (116, .ireturn)]
theorem okX8_track : mi_tb (pP.2.2.2.1 kX8_track).2.1 tbX8_track := mi_tb.of (by decide +kernel)
theorem enX8_track {X : mi_X} {d : Nat} {avs : List Value} {h : mi_H} {mc ms : Nat} {Q : Option Value → mi_H → Prop} (hn : (lg_sl avs).length ≤ (pP.2.2.2.1 kX8_track).2.2.1) (body : mi_W pP X kX8_track d mc ms 0 (lv_args 0 avs) [] h Q) : mi_S pP X kX8_track d avs h mc ms Q := mi_S.of pP_ok rfl (by decide +kernel) hn body
theorem exX8_track {X : mi_X} {d : Nat} {avs : List Value} {h : mi_H} {mc ms : Nat} {Q : Option Value → mi_H → Prop} {QX : Nat → Nat → mi_H → Prop} (hn : (lg_sl avs).length ≤ (pP.2.2.2.1 kX8_track).2.2.1) (body : mi_WX QX pP X kX8_track d mc ms 0 (lv_args 0 avs) [] h Q) : mi_SX pP X kX8_track d avs h mc ms Q QX := mi_SX.of pP_ok rfl (by decide +kernel) hn body
def tbX8_write : List (Nat × Instr) := [(0, .aload_n 0), (1, .iload_n 1), (2, .invokevirtual 91), (5, .astore 4), (7, .lload_n 2), (8, .lconst 0), (9, .lcmp), (10, .ifCond .lt 11), (13, .lload_n 2), (14, .ldc2_w 95), (17, .lcmp), (18, .ifCond .le 13), (21, .new 74), (24, .dup), (25, .ldc 97), (27, .invokespecial 78), (30, .athrow), (31, .aload 4), (33, .invokevirtual 99), (36, .ifCond .ne 13), (39, .new 67), (42, .dup), (43, .ldc 103), (45, .invokespecial 71), (48, .athrow), (49, .aload 4), (51, .invokevirtual 105), (54, .istore 5), (56, .aload_n 0), (57, .getfield 11), (60, .iload 5), (62, .aaload), (63, .lload_n 2), (64, .aload 4), (66, .getfield 108), (69, .iconst 1), (70, .if_icmp .ne 7), (73, .iconst 1), (74, .goto 4), (77, .iconst 0), (78, .aload_n 0), (79, .getfield 38), (82, .invokevirtual 111), (85, .iload 5), (87, .ireturn)]
theorem okX8_write : mi_tb (pP.2.2.2.1 kX8_write).2.1 tbX8_write := mi_tb.of (by decide +kernel)
theorem enX8_write {X : mi_X} {d : Nat} {avs : List Value} {h : mi_H} {mc ms : Nat} {Q : Option Value → mi_H → Prop} (hn : (lg_sl avs).length ≤ (pP.2.2.2.1 kX8_write).2.2.1) (body : mi_W pP X kX8_write d mc ms 0 (lv_args 0 avs) [] h Q) : mi_S pP X kX8_write d avs h mc ms Q := mi_S.of pP_ok rfl (by decide +kernel) hn body
theorem exX8_write {X : mi_X} {d : Nat} {avs : List Value} {h : mi_H} {mc ms : Nat} {Q : Option Value → mi_H → Prop} {QX : Nat → Nat → mi_H → Prop} (hn : (lg_sl avs).length ≤ (pP.2.2.2.1 kX8_write).2.2.1) (body : mi_WX QX pP X kX8_write d mc ms 0 (lv_args 0 avs) [] h Q) : mi_SX pP X kX8_write d avs h mc ms Q QX := mi_SX.of pP_ok rfl (by decide +kernel) hn body
def tbX8_starve : List (Nat × Instr) := [(0, .aload_n 0), (1, .iload_n 1), (2, .invokevirtual 91), (5, .astore_n 2), (6, .aload_n 2), (7, .invokevirtual 99), (10, .ifCond .eq 10), (13, .aload_n 0), (14, .getfield 52), (17, .ifCond .gt 13), (20, .new 67), (23, .dup), (24, .ldc 115), (26, .invokespecial 71), (29, .athrow), (30, .aload_n 0), (31, .dup), (32, .getfield 52), (35, .iconst 1), (36, .isub), (37, .putfield 52), (40, .aload_n 2), (41, .dup), (42, .getfield 117), (45, .iconst 1), (46, .iadd), (47, .putfield 117), (50, .aload_n 2), (51, .invokevirtual 105), (54, .ireturn)]
theorem okX8_starve : mi_tb (pP.2.2.2.1 kX8_starve).2.1 tbX8_starve := mi_tb.of (by decide +kernel)
theorem enX8_starve {X : mi_X} {d : Nat} {avs : List Value} {h : mi_H} {mc ms : Nat} {Q : Option Value → mi_H → Prop} (hn : (lg_sl avs).length ≤ (pP.2.2.2.1 kX8_starve).2.2.1) (body : mi_W pP X kX8_starve d mc ms 0 (lv_args 0 avs) [] h Q) : mi_S pP X kX8_starve d avs h mc ms Q := mi_S.of pP_ok rfl (by decide +kernel) hn body
theorem exX8_starve {X : mi_X} {d : Nat} {avs : List Value} {h : mi_H} {mc ms : Nat} {Q : Option Value → mi_H → Prop} {QX : Nat → Nat → mi_H → Prop} (hn : (lg_sl avs).length ≤ (pP.2.2.2.1 kX8_starve).2.2.1) (body : mi_WX QX pP X kX8_starve d mc ms 0 (lv_args 0 avs) [] h Q) : mi_SX pP X kX8_starve d avs h mc ms Q QX := mi_SX.of pP_ok rfl (by decide +kernel) hn body
def tbX8_close : List (Nat × Instr) := [(0, .aload_n 0), (1, .iload_n 1), (2, .invokevirtual 91), (5, .astore_n 2), (6, .aload_n 2), (7, .getfield 120), (10, .ifCond .eq 13), (13, .new 67), (16, .dup), (17, .ldc 123), (19, .invokespecial 71), (22, .athrow), (23, .aload_n 2), (24, .iconst 1), (25, .putfield 120), (28, .iload_n 1), (29, .aload_n 0), (30, .getfield 46), (33, .iconst 1), (34, .isub), (35, .if_icmp .eq 5), (38, .iconst 0), (39, .ireturn), (40, .aload_n 2), (41, .invokevirtual 125), (44, .istore_n 3), (45, .aload_n 0), (46, .aload_n 2), (47, .invokevirtual 85), (50, .putfield 49), (53, .iload_n 3), (54, .ireturn)]
theorem okX8_close : mi_tb (pP.2.2.2.1 kX8_close).2.1 tbX8_close := mi_tb.of (by decide +kernel)
theorem enX8_close {X : mi_X} {d : Nat} {avs : List Value} {h : mi_H} {mc ms : Nat} {Q : Option Value → mi_H → Prop} (hn : (lg_sl avs).length ≤ (pP.2.2.2.1 kX8_close).2.2.1) (body : mi_W pP X kX8_close d mc ms 0 (lv_args 0 avs) [] h Q) : mi_S pP X kX8_close d avs h mc ms Q := mi_S.of pP_ok rfl (by decide +kernel) hn body
theorem exX8_close {X : mi_X} {d : Nat} {avs : List Value} {h : mi_H} {mc ms : Nat} {Q : Option Value → mi_H → Prop} {QX : Nat → Nat → mi_H → Prop} (hn : (lg_sl avs).length ≤ (pP.2.2.2.1 kX8_close).2.2.1) (body : mi_WX QX pP X kX8_close d mc ms 0 (lv_args 0 avs) [] h Q) : mi_SX pP X kX8_close d avs h mc ms Q QX := mi_SX.of pP_ok rfl (by decide +kernel) hn body
def tbX8_end : List (Nat × Instr) := [(0, .aload_n 0), (1, .getfield 55), (4, .ifCond .eq 18), (7, .aload_n 0), (8, .invokevirtual 128), (11, .ifCond .ne 11), (14, .aload_n 0), (15, .invokevirtual 63), (18, .iconst 2), (19, .if_icmp .ge 13), (22, .new 67), (25, .dup), (26, .ldc 131), (28, .invokespecial 71), (31, .athrow), (32, .aload_n 0), (33, .iconst 0), (34, .putfield 55), (37, .aload_n 0), (38, .dup), (39, .getfield 49), (42, .iconst 2), (43, .iadd), (44, .putfield 49), (47, .aload_n 0), (48, .getfield 49), (51, .ireturn)]
theorem okX8_end : mi_tb (pP.2.2.2.1 kX8_end).2.1 tbX8_end := mi_tb.of (by decide +kernel)
theorem enX8_end {X : mi_X} {d : Nat} {avs : List Value} {h : mi_H} {mc ms : Nat} {Q : Option Value → mi_H → Prop} (hn : (lg_sl avs).length ≤ (pP.2.2.2.1 kX8_end).2.2.1) (body : mi_W pP X kX8_end d mc ms 0 (lv_args 0 avs) [] h Q) : mi_S pP X kX8_end d avs h mc ms Q := mi_S.of pP_ok rfl (by decide +kernel) hn body
theorem exX8_end {X : mi_X} {d : Nat} {avs : List Value} {h : mi_H} {mc ms : Nat} {Q : Option Value → mi_H → Prop} {QX : Nat → Nat → mi_H → Prop} (hn : (lg_sl avs).length ≤ (pP.2.2.2.1 kX8_end).2.2.1) (body : mi_WX QX pP X kX8_end d mc ms 0 (lv_args 0 avs) [] h Q) : mi_SX pP X kX8_end d avs h mc ms Q QX := mi_SX.of pP_ok rfl (by decide +kernel) hn body
def tbX8_file : List (Nat × Instr) := [(0, .iload_n 1), (1, .invokestatic 133), (4, .iload_n 2), (5, .invokestatic 136), (8, .ifCond .eq 14), (11, .iload_n 3), (12, .iconst 1), (13, .if_icmp .lt 9), (16, .iload_n 3), (17, .bipush 20), (19, .if_icmp .le 13), (22, .new 74), (25, .dup), (26, .ldc 140), (28, .invokespecial 78), (31, .athrow), (32, .aload_n 0), (33, .iload_n 2), (34, .invokevirtual 142), (37, .istore 4), (39, .iload 4), (41, .iconst (-1)), (42, .if_icmp .eq 35), (45, .aload_n 0), (46, .getfield 17), (49, .iload 4), (51, .aaload), (52, .getfield 108), (55, .iconst 1), (56, .if_icmp .ne 21), (59, .aload_n 0), (60, .getfield 17), (63, .iload 4), (65, .aaload), (66, .iload_n 2), (67, .iload_n 3), (68, .iadd), (69, .iconst 1), (70, .isub), (71, .invokevirtual 146), (74, .ifCond .ne 13), (77, .new 74), (80, .dup), (81, .ldc 149), (83, .invokespecial 78), (86, .athrow), (87, .aload_n 0), (88, .getfield 55), (91, .ifCond .ne 13), (94, .new 67), (97, .dup), (98, .ldc 151), (100, .invokespecial 71), (103, .athrow), (104, .aload_n 0), (105, .getfield 24), (108, .iload_n 1), (109, .aload_n 0), (110, .getfield 42), (113, .iconst 1), (114, .isub), (115, .iload_n 2), (116, .iload_n 3), (117, .invokevirtual 153), (120, .iload 4), (122, .ireturn)]
theorem okX8_file : mi_tb (pP.2.2.2.1 kX8_file).2.1 tbX8_file := mi_tb.of (by decide +kernel)
theorem enX8_file {X : mi_X} {d : Nat} {avs : List Value} {h : mi_H} {mc ms : Nat} {Q : Option Value → mi_H → Prop} (hn : (lg_sl avs).length ≤ (pP.2.2.2.1 kX8_file).2.2.1) (body : mi_W pP X kX8_file d mc ms 0 (lv_args 0 avs) [] h Q) : mi_S pP X kX8_file d avs h mc ms Q := mi_S.of pP_ok rfl (by decide +kernel) hn body
theorem exX8_file {X : mi_X} {d : Nat} {avs : List Value} {h : mi_H} {mc ms : Nat} {Q : Option Value → mi_H → Prop} {QX : Nat → Nat → mi_H → Prop} (hn : (lg_sl avs).length ≤ (pP.2.2.2.1 kX8_file).2.2.1) (body : mi_WX QX pP X kX8_file d mc ms 0 (lv_args 0 avs) [] h Q) : mi_SX pP X kX8_file d avs h mc ms Q QX := mi_SX.of pP_ok rfl (by decide +kernel) hn body
def tbX8_scratch : List (Nat × Instr) := [(0, .iload_n 1), (1, .ifCond .lt 20), (4, .iload_n 1), (5, .bipush 30), (7, .if_icmp .ge 14), (10, .iload_n 2), (11, .iload_n 1), (12, .if_icmp .lt 9), (15, .iload_n 2), (16, .bipush 30), (18, .if_icmp .lt 13), (21, .new 74), (24, .dup), (25, .ldc 156), (27, .invokespecial 78), (30, .athrow), (31, .iload_n 3), (32, .ifCond .lt 24), (35, .iload_n 3), (36, .sipush 359), (39, .if_icmp .gt 17), (42, .iload 4), (44, .iload_n 3), (45, .if_icmp .lt 11), (48, .iload 4), (50, .sipush 359), (53, .if_icmp .le 13), (56, .new 74), (59, .dup), (60, .ldc 158), (62, .invokespecial 78), (65, .athrow), (66, .iconst 0), (67, .istore 5), (69, .iconst 0), (70, .istore 6), (72, .iload 6), (74, .sipush 240), (77, .if_icmp .ge 95), (80, .iload 6), (82, .invokestatic 160), (85, .istore 7), (87, .iload 6), (89, .invokestatic 165), (92, .dstore 8), (94, .aload_n 0), (95, .getfield 11), (98, .iload 6), (100, .aaload), (101, .getfield 169), (104, .ifCond .eq 62), (107, .iload 7), (109, .iload_n 1), (110, .if_icmp .lt 56), (113, .iload 7), (115, .iload_n 2), (116, .if_icmp .gt 50), (119, .dload 8), (121, .iload_n 3), (122, .i2d), (123, .dcmp .l), (124, .ifCond .lt 42), (127, .dload 8), (129, .iload 4), (131, .i2d), (132, .dcmp .g), (133, .ifCond .gt 33), (136, .aload_n 0), (137, .getfield 11), (140, .iload 6), (142, .aaload), (143, .iload 7), (145, .iload_n 3), (146, .iadd), (147, .iconst 4), (148, .irem), (149, .iload 4), (151, .iload_n 3), (152, .isub), (153, .bipush 90), (155, .idiv), (156, .aload_n 0), (157, .getfield 38), (160, .invokevirtual 172), (163, .iinc 5 1), (166, .iinc 6 1), (169, .goto (-97)), (172, .iload 5), (174, .ireturn)]
theorem okX8_scratch : mi_tb (pP.2.2.2.1 kX8_scratch).2.1 tbX8_scratch := mi_tb.of (by decide +kernel)
theorem enX8_scratch {X : mi_X} {d : Nat} {avs : List Value} {h : mi_H} {mc ms : Nat} {Q : Option Value → mi_H → Prop} (hn : (lg_sl avs).length ≤ (pP.2.2.2.1 kX8_scratch).2.2.1) (body : mi_W pP X kX8_scratch d mc ms 0 (lv_args 0 avs) [] h Q) : mi_S pP X kX8_scratch d avs h mc ms Q := mi_S.of pP_ok rfl (by decide +kernel) hn body
theorem exX8_scratch {X : mi_X} {d : Nat} {avs : List Value} {h : mi_H} {mc ms : Nat} {Q : Option Value → mi_H → Prop} {QX : Nat → Nat → mi_H → Prop} (hn : (lg_sl avs).length ≤ (pP.2.2.2.1 kX8_scratch).2.2.1) (body : mi_WX QX pP X kX8_scratch d mc ms 0 (lv_args 0 avs) [] h Q) : mi_SX pP X kX8_scratch d avs h mc ms Q QX := mi_SX.of pP_ok rfl (by decide +kernel) hn body
def tbX8_rot : List (Nat × Instr) := [(0, .iload_n 1), (1, .ifCond .lt 10), (4, .iload_n 1), (5, .sipush 999), (8, .if_icmp .le 13), (11, .new 74), (14, .dup), (15, .ldc 176), (17, .invokespecial 78), (20, .athrow), (21, .iconst 0), (22, .istore_n 2), (23, .iconst 0), (24, .istore_n 3), (25, .iload_n 3), (26, .sipush 240), (29, .if_icmp .ge 77), (32, .aload_n 0), (33, .getfield 11), (36, .iload_n 3), (37, .aaload), (38, .getfield 169), (41, .ifCond .eq 17), (44, .iload_n 3), (45, .iload_n 1), (46, .iconst 5), (47, .irem), (48, .iconst 2), (49, .iadd), (50, .irem), (51, .ifCond .ne 7), (54, .iconst 1), (55, .goto 4), (58, .iconst 0), (59, .istore 4), (61, .iload 4), (63, .ifCond .eq 37), (66, .aload_n 0), (67, .getfield 11), (70, .iload_n 3), (71, .aaload), (72, .iload_n 3), (73, .bipush 7), (75, .imul), (76, .iload_n 1), (77, .iadd), (78, .bipush 16), (80, .irem), (81, .iload_n 1), (82, .bipush 15), (84, .irem), (85, .iconst 1), (86, .iadd), (87, .aload_n 0), (88, .getfield 38), (91, .invokevirtual 178), (94, .ifCond .eq 6), (97, .iinc 2 1), (100, .iinc 3 1), (103, .goto (-78)), (106, .iload_n 2), (107, .ireturn)]
theorem okX8_rot : mi_tb (pP.2.2.2.1 kX8_rot).2.1 tbX8_rot := mi_tb.of (by decide +kernel)
theorem enX8_rot {X : mi_X} {d : Nat} {avs : List Value} {h : mi_H} {mc ms : Nat} {Q : Option Value → mi_H → Prop} (hn : (lg_sl avs).length ≤ (pP.2.2.2.1 kX8_rot).2.2.1) (body : mi_W pP X kX8_rot d mc ms 0 (lv_args 0 avs) [] h Q) : mi_S pP X kX8_rot d avs h mc ms Q := mi_S.of pP_ok rfl (by decide +kernel) hn body
theorem exX8_rot {X : mi_X} {d : Nat} {avs : List Value} {h : mi_H} {mc ms : Nat} {Q : Option Value → mi_H → Prop} {QX : Nat → Nat → mi_H → Prop} (hn : (lg_sl avs).length ≤ (pP.2.2.2.1 kX8_rot).2.2.1) (body : mi_WX QX pP X kX8_rot d mc ms 0 (lv_args 0 avs) [] h Q) : mi_SX pP X kX8_rot d avs h mc ms Q QX := mi_SX.of pP_ok rfl (by decide +kernel) hn body
def tbX8_tray : List (Nat × Instr) := [(0, .aload_n 0), (1, .getfield 31), (4, .getfield 182), (7, .istore_n 2), (8, .aload_n 0), (9, .getfield 31), (12, .iload_n 1), (13, .putfield 182), (16, .iload_n 2), (17, .ireturn)]
theorem okX8_tray : mi_tb (pP.2.2.2.1 kX8_tray).2.1 tbX8_tray := mi_tb.of (by decide +kernel)
theorem enX8_tray {X : mi_X} {d : Nat} {avs : List Value} {h : mi_H} {mc ms : Nat} {Q : Option Value → mi_H → Prop} (hn : (lg_sl avs).length ≤ (pP.2.2.2.1 kX8_tray).2.2.1) (body : mi_W pP X kX8_tray d mc ms 0 (lv_args 0 avs) [] h Q) : mi_S pP X kX8_tray d avs h mc ms Q := mi_S.of pP_ok rfl (by decide +kernel) hn body
theorem exX8_tray {X : mi_X} {d : Nat} {avs : List Value} {h : mi_H} {mc ms : Nat} {Q : Option Value → mi_H → Prop} {QX : Nat → Nat → mi_H → Prop} (hn : (lg_sl avs).length ≤ (pP.2.2.2.1 kX8_tray).2.2.1) (body : mi_WX QX pP X kX8_tray d mc ms 0 (lv_args 0 avs) [] h Q) : mi_SX pP X kX8_tray d avs h mc ms Q QX := mi_SX.of pP_ok rfl (by decide +kernel) hn body
def tbX8_push : List (Nat × Instr) := [(0, .aload_n 0), (1, .getfield 31), (4, .dup), (5, .getfield 185), (8, .iconst 1), (9, .iadd), (10, .putfield 185), (13, .aload_n 0), (14, .getfield 31), (17, .getfield 185), (20, .ireturn)]
theorem okX8_push : mi_tb (pP.2.2.2.1 kX8_push).2.1 tbX8_push := mi_tb.of (by decide +kernel)
theorem enX8_push {X : mi_X} {d : Nat} {avs : List Value} {h : mi_H} {mc ms : Nat} {Q : Option Value → mi_H → Prop} (hn : (lg_sl avs).length ≤ (pP.2.2.2.1 kX8_push).2.2.1) (body : mi_W pP X kX8_push d mc ms 0 (lv_args 0 avs) [] h Q) : mi_S pP X kX8_push d avs h mc ms Q := mi_S.of pP_ok rfl (by decide +kernel) hn body
theorem exX8_push {X : mi_X} {d : Nat} {avs : List Value} {h : mi_H} {mc ms : Nat} {Q : Option Value → mi_H → Prop} {QX : Nat → Nat → mi_H → Prop} (hn : (lg_sl avs).length ≤ (pP.2.2.2.1 kX8_push).2.2.1) (body : mi_WX QX pP X kX8_push d mc ms 0 (lv_args 0 avs) [] h Q) : mi_SX pP X kX8_push d avs h mc ms Q QX := mi_SX.of pP_ok rfl (by decide +kernel) hn body
def tbX8_read : List (Nat × Instr) := [(0, .iload_n 1), (1, .invokestatic 188), (4, .aload_n 0), (5, .getfield 31), (8, .getfield 182), (11, .ifCond .eq 13), (14, .new 67), (17, .dup), (18, .ldc 191), (20, .invokespecial 71), (23, .athrow), (24, .aload_n 0), (25, .getfield 31), (28, .iload_n 1), (29, .invokevirtual 193), (32, .aload_n 0), (33, .getfield 11), (36, .iload_n 1), (37, .aaload), (38, .getfield 196), (41, .ireturn)]
theorem okX8_read : mi_tb (pP.2.2.2.1 kX8_read).2.1 tbX8_read := mi_tb.of (by decide +kernel)
theorem enX8_read {X : mi_X} {d : Nat} {avs : List Value} {h : mi_H} {mc ms : Nat} {Q : Option Value → mi_H → Prop} (hn : (lg_sl avs).length ≤ (pP.2.2.2.1 kX8_read).2.2.1) (body : mi_W pP X kX8_read d mc ms 0 (lv_args 0 avs) [] h Q) : mi_S pP X kX8_read d avs h mc ms Q := mi_S.of pP_ok rfl (by decide +kernel) hn body
theorem exX8_read {X : mi_X} {d : Nat} {avs : List Value} {h : mi_H} {mc ms : Nat} {Q : Option Value → mi_H → Prop} {QX : Nat → Nat → mi_H → Prop} (hn : (lg_sl avs).length ≤ (pP.2.2.2.1 kX8_read).2.2.1) (body : mi_WX QX pP X kX8_read d mc ms 0 (lv_args 0 avs) [] h Q) : mi_SX pP X kX8_read d avs h mc ms Q QX := mi_SX.of pP_ok rfl (by decide +kernel) hn body
def tbX8_seek : List (Nat × Instr) := [(0, .iload_n 1), (1, .invokestatic 188), (4, .aload_n 0), (5, .getfield 31), (8, .getfield 199), (11, .iload_n 1), (12, .invokestatic 202), (15, .dreturn)]
theorem okX8_seek : mi_tb (pP.2.2.2.1 kX8_seek).2.1 tbX8_seek := mi_tb.of (by decide +kernel)
theorem enX8_seek {X : mi_X} {d : Nat} {avs : List Value} {h : mi_H} {mc ms : Nat} {Q : Option Value → mi_H → Prop} (hn : (lg_sl avs).length ≤ (pP.2.2.2.1 kX8_seek).2.2.1) (body : mi_W pP X kX8_seek d mc ms 0 (lv_args 0 avs) [] h Q) : mi_S pP X kX8_seek d avs h mc ms Q := mi_S.of pP_ok rfl (by decide +kernel) hn body
theorem exX8_seek {X : mi_X} {d : Nat} {avs : List Value} {h : mi_H} {mc ms : Nat} {Q : Option Value → mi_H → Prop} {QX : Nat → Nat → mi_H → Prop} (hn : (lg_sl avs).length ≤ (pP.2.2.2.1 kX8_seek).2.2.1) (body : mi_WX QX pP X kX8_seek d mc ms 0 (lv_args 0 avs) [] h Q) : mi_SX pP X kX8_seek d avs h mc ms Q QX := mi_SX.of pP_ok rfl (by decide +kernel) hn body
def tbX8_clock : List (Nat × Instr) := [(0, .aload_n 0), (1, .getfield 31), (4, .getfield 206), (7, .dreturn)]
theorem okX8_clock : mi_tb (pP.2.2.2.1 kX8_clock).2.1 tbX8_clock := mi_tb.of (by decide +kernel)
theorem enX8_clock {X : mi_X} {d : Nat} {avs : List Value} {h : mi_H} {mc ms : Nat} {Q : Option Value → mi_H → Prop} (hn : (lg_sl avs).length ≤ (pP.2.2.2.1 kX8_clock).2.2.1) (body : mi_W pP X kX8_clock d mc ms 0 (lv_args 0 avs) [] h Q) : mi_S pP X kX8_clock d avs h mc ms Q := mi_S.of pP_ok rfl (by decide +kernel) hn body
theorem exX8_clock {X : mi_X} {d : Nat} {avs : List Value} {h : mi_H} {mc ms : Nat} {Q : Option Value → mi_H → Prop} {QX : Nat → Nat → mi_H → Prop} (hn : (lg_sl avs).length ≤ (pP.2.2.2.1 kX8_clock).2.2.1) (body : mi_WX QX pP X kX8_clock d mc ms 0 (lv_args 0 avs) [] h Q) : mi_SX pP X kX8_clock d avs h mc ms Q QX := mi_SX.of pP_ok rfl (by decide +kernel) hn body
def tbX8_angle : List (Nat × Instr) := [(0, .iload_n 1), (1, .invokestatic 188), (4, .iload_n 1), (5, .invokestatic 165), (8, .dreturn)]
theorem okX8_angle : mi_tb (pP.2.2.2.1 kX8_angle).2.1 tbX8_angle := mi_tb.of (by decide +kernel)
theorem enX8_angle {X : mi_X} {d : Nat} {avs : List Value} {h : mi_H} {mc ms : Nat} {Q : Option Value → mi_H → Prop} (hn : (lg_sl avs).length ≤ (pP.2.2.2.1 kX8_angle).2.2.1) (body : mi_W pP X kX8_angle d mc ms 0 (lv_args 0 avs) [] h Q) : mi_S pP X kX8_angle d avs h mc ms Q := mi_S.of pP_ok rfl (by decide +kernel) hn body
theorem exX8_angle {X : mi_X} {d : Nat} {avs : List Value} {h : mi_H} {mc ms : Nat} {Q : Option Value → mi_H → Prop} {QX : Nat → Nat → mi_H → Prop} (hn : (lg_sl avs).length ≤ (pP.2.2.2.1 kX8_angle).2.2.1) (body : mi_WX QX pP X kX8_angle d mc ms 0 (lv_args 0 avs) [] h Q) : mi_SX pP X kX8_angle d avs h mc ms Q QX := mi_SX.of pP_ok rfl (by decide +kernel) hn body
def tbX8_ofSector : List (Nat × Instr) := [(0, .iload_n 1), (1, .invokestatic 188), (4, .aload_n 0), (5, .getfield 11), (8, .iload_n 1), (9, .aaload), (10, .astore_n 3), (11, .iload_n 2), (64, .aload_n 0), (65, .iload_n 1), (66, .invokevirtual 142), (69, .ireturn), (70, .aload_n 3), (71, .getfield 169), (74, .ifCond .eq 7), (77, .iconst 1), (78, .goto 4), (81, .iconst 0), (82, .ireturn), (83, .aload_n 3), (84, .getfield 210), (87, .getfield 214), (90, .invokestatic 219), (93, .ireturn), (94, .aload_n 3), (95, .getfield 196), (98, .ireturn), (99, .aload_n 3), (100, .getfield 224), (103, .ireturn), (104, .aload_n 3), (105, .getfield 227), (108, .ireturn), (109, .aload_n 3), (110, .getfield 230), (113, .ireturn), (114, .iload_n 1), (115, .invokestatic 160), (118, .ireturn), (119, .iload_n 1), (120, .invokestatic 233), (123, .ireturn), (124, .new 74), (127, .dup), (128, .ldc 236), (130, .invokespecial 78), (133, .athrow)]
theorem okX8_ofSector : mi_tb (pP.2.2.2.1 kX8_ofSector).2.1 tbX8_ofSector := mi_tb.of (by decide +kernel)
theorem swX8_ofSector_12 : decode (pP.2.2.2.1 kX8_ofSector).2.1 12 = .ok (.tableswitch 112 0 8 #[52, 58, 71, 82, 87, 92, 97, 102, 107], 52) := by decide +kernel
theorem enX8_ofSector {X : mi_X} {d : Nat} {avs : List Value} {h : mi_H} {mc ms : Nat} {Q : Option Value → mi_H → Prop} (hn : (lg_sl avs).length ≤ (pP.2.2.2.1 kX8_ofSector).2.2.1) (body : mi_W pP X kX8_ofSector d mc ms 0 (lv_args 0 avs) [] h Q) : mi_S pP X kX8_ofSector d avs h mc ms Q := mi_S.of pP_ok rfl (by decide +kernel) hn body
theorem exX8_ofSector {X : mi_X} {d : Nat} {avs : List Value} {h : mi_H} {mc ms : Nat} {Q : Option Value → mi_H → Prop} {QX : Nat → Nat → mi_H → Prop} (hn : (lg_sl avs).length ≤ (pP.2.2.2.1 kX8_ofSector).2.2.1) (body : mi_WX QX pP X kX8_ofSector d mc ms 0 (lv_args 0 avs) [] h Q) : mi_SX pP X kX8_ofSector d avs h mc ms Q QX := mi_SX.of pP_ok rfl (by decide +kernel) hn body
def tbX8_nibbles : List (Nat × Instr) := [(0, .iload_n 1), (1, .invokestatic 188), (4, .iload_n 2), (5, .ifCond .eq 15), (8, .aload_n 0), (9, .getfield 11), (12, .iload_n 1), (13, .aaload), (14, .getfield 238), (17, .goto 12), (20, .aload_n 0), (21, .getfield 11), (24, .iload_n 1), (25, .aaload), (26, .invokevirtual 242), (29, .lreturn)]
theorem okX8_nibbles : mi_tb (pP.2.2.2.1 kX8_nibbles).2.1 tbX8_nibbles := mi_tb.of (by decide +kernel)
theorem enX8_nibbles {X : mi_X} {d : Nat} {avs : List Value} {h : mi_H} {mc ms : Nat} {Q : Option Value → mi_H → Prop} (hn : (lg_sl avs).length ≤ (pP.2.2.2.1 kX8_nibbles).2.2.1) (body : mi_W pP X kX8_nibbles d mc ms 0 (lv_args 0 avs) [] h Q) : mi_S pP X kX8_nibbles d avs h mc ms Q := mi_S.of pP_ok rfl (by decide +kernel) hn body
theorem exX8_nibbles {X : mi_X} {d : Nat} {avs : List Value} {h : mi_H} {mc ms : Nat} {Q : Option Value → mi_H → Prop} {QX : Nat → Nat → mi_H → Prop} (hn : (lg_sl avs).length ≤ (pP.2.2.2.1 kX8_nibbles).2.2.1) (body : mi_WX QX pP X kX8_nibbles d mc ms 0 (lv_args 0 avs) [] h Q) : mi_SX pP X kX8_nibbles d avs h mc ms Q QX := mi_SX.of pP_ok rfl (by decide +kernel) hn body
def tbX8_place : List (Nat × Instr) := [(0, .iload_n 1), (1, .invokestatic 188), (4, .iload_n 2), (5, .ifCond .lt 9), (8, .iload_n 2), (9, .bipush 16), (11, .if_icmp .lt 13), (14, .new 246), (17, .dup), (18, .ldc 248), (20, .invokespecial 250), (23, .athrow), (24, .aload_n 0), (25, .getfield 11), (28, .iload_n 1), (29, .aaload), (30, .astore_n 3), (31, .aload_n 3), (32, .getfield 169), (35, .ifCond .eq 14), (38, .aload_n 3), (39, .getfield 210), (42, .iload_n 2), (43, .invokevirtual 251), (46, .ifCond .eq 7), (49, .iconst (-1)), (50, .goto 11), (53, .aload_n 3), (54, .getfield 210), (57, .iload_n 2), (58, .invokevirtual 254), (61, .ireturn)]
theorem okX8_place : mi_tb (pP.2.2.2.1 kX8_place).2.1 tbX8_place := mi_tb.of (by decide +kernel)
theorem enX8_place {X : mi_X} {d : Nat} {avs : List Value} {h : mi_H} {mc ms : Nat} {Q : Option Value → mi_H → Prop} (hn : (lg_sl avs).length ≤ (pP.2.2.2.1 kX8_place).2.2.1) (body : mi_W pP X kX8_place d mc ms 0 (lv_args 0 avs) [] h Q) : mi_S pP X kX8_place d avs h mc ms Q := mi_S.of pP_ok rfl (by decide +kernel) hn body
theorem exX8_place {X : mi_X} {d : Nat} {avs : List Value} {h : mi_H} {mc ms : Nat} {Q : Option Value → mi_H → Prop} {QX : Nat → Nat → mi_H → Prop} (hn : (lg_sl avs).length ≤ (pP.2.2.2.1 kX8_place).2.2.1) (body : mi_WX QX pP X kX8_place d mc ms 0 (lv_args 0 avs) [] h Q) : mi_SX pP X kX8_place d avs h mc ms Q QX := mi_SX.of pP_ok rfl (by decide +kernel) hn body
def tbX8_ofTrack : List (Nat × Instr) := [(0, .aload_n 0), (1, .iload_n 1), (2, .invokevirtual 91), (5, .astore_n 3), (6, .iload_n 2), (52, .aload_n 3), (53, .getfield 257), (56, .ireturn), (57, .aload_n 3), (58, .getfield 108), (61, .ireturn), (62, .aload_n 3), (63, .getfield 88), (66, .ireturn), (67, .aload_n 3), (68, .getfield 260), (71, .ireturn), (72, .aload_n 3), (73, .getfield 263), (76, .aload_n 3), (77, .getfield 117), (80, .isub), (81, .ireturn), (82, .aload_n 3), (83, .getfield 117), (86, .ireturn), (87, .aload_n 3), (88, .getfield 120), (91, .ifCond .eq 7), (94, .iconst 1), (95, .goto 4), (98, .iconst 0), (99, .ireturn), (100, .aload_n 0), (101, .aload_n 3), (102, .getfield 88), (105, .aload_n 3), (106, .getfield 260), (109, .invokevirtual 266), (112, .ireturn), (113, .new 74), (116, .dup), (117, .ldc_w 270), (120, .invokespecial 78), (123, .athrow)]
theorem okX8_ofTrack : mi_tb (pP.2.2.2.1 kX8_ofTrack).2.1 tbX8_ofTrack := mi_tb.of (by decide +kernel)
theorem swX8_ofTrack_7 : decode (pP.2.2.2.1 kX8_ofTrack).2.1 7 = .ok (.tableswitch 106 0 7 #[45, 50, 55, 60, 65, 75, 80, 93], 45) := by decide +kernel
theorem enX8_ofTrack {X : mi_X} {d : Nat} {avs : List Value} {h : mi_H} {mc ms : Nat} {Q : Option Value → mi_H → Prop} (hn : (lg_sl avs).length ≤ (pP.2.2.2.1 kX8_ofTrack).2.2.1) (body : mi_W pP X kX8_ofTrack d mc ms 0 (lv_args 0 avs) [] h Q) : mi_S pP X kX8_ofTrack d avs h mc ms Q := mi_S.of pP_ok rfl (by decide +kernel) hn body
theorem exX8_ofTrack {X : mi_X} {d : Nat} {avs : List Value} {h : mi_H} {mc ms : Nat} {Q : Option Value → mi_H → Prop} {QX : Nat → Nat → mi_H → Prop} (hn : (lg_sl avs).length ≤ (pP.2.2.2.1 kX8_ofTrack).2.2.1) (body : mi_WX QX pP X kX8_ofTrack d mc ms 0 (lv_args 0 avs) [] h Q) : mi_SX pP X kX8_ofTrack d avs h mc ms Q QX := mi_SX.of pP_ok rfl (by decide +kernel) hn body
def tbX8_ofFile : List (Nat × Instr) := [(0, .iload_n 1), (1, .invokestatic 133), (4, .iload_n 2), (5, .ifCond .lt 11), (8, .iload_n 2), (9, .aload_n 0), (10, .getfield 42), (13, .if_icmp .lt 14), (16, .new 246), (19, .dup), (20, .ldc_w 272), (23, .invokespecial 250), (26, .athrow), (27, .iload_n 3), (28, .ifCond .lt 8), (31, .iload_n 3), (32, .iconst 2), (33, .if_icmp .le 14), (36, .new 74), (39, .dup), (40, .ldc_w 274), (43, .invokespecial 78), (46, .athrow), (47, .aload_n 0), (48, .getfield 24), (51, .iload_n 1), (52, .iload_n 2), (53, .invokevirtual 276), (56, .istore 4), (58, .iload 4), (60, .iconst (-1)), (61, .if_icmp .ne 5), (64, .iconst (-1)), (65, .ireturn), (66, .aload_n 0), (67, .getfield 24), (70, .iload_n 1), (71, .iload 4), (73, .invokevirtual 279), (76, .istore 5), (78, .aload_n 0), (79, .getfield 24), (82, .iload_n 1), (83, .iload 4), (85, .invokevirtual 282), (88, .istore 6), (90, .iload_n 3), (91, .iconst 2), (92, .if_icmp .ne 12), (95, .aload_n 0), (96, .iload 5), (98, .iload 6), (100, .invokevirtual 266), (103, .ireturn), (104, .iload_n 3), (105, .ifCond .ne 8), (108, .iload 5), (110, .goto 5), (113, .iload 6), (115, .ireturn)]
theorem okX8_ofFile : mi_tb (pP.2.2.2.1 kX8_ofFile).2.1 tbX8_ofFile := mi_tb.of (by decide +kernel)
theorem enX8_ofFile {X : mi_X} {d : Nat} {avs : List Value} {h : mi_H} {mc ms : Nat} {Q : Option Value → mi_H → Prop} (hn : (lg_sl avs).length ≤ (pP.2.2.2.1 kX8_ofFile).2.2.1) (body : mi_W pP X kX8_ofFile d mc ms 0 (lv_args 0 avs) [] h Q) : mi_S pP X kX8_ofFile d avs h mc ms Q := mi_S.of pP_ok rfl (by decide +kernel) hn body
theorem exX8_ofFile {X : mi_X} {d : Nat} {avs : List Value} {h : mi_H} {mc ms : Nat} {Q : Option Value → mi_H → Prop} {QX : Nat → Nat → mi_H → Prop} (hn : (lg_sl avs).length ≤ (pP.2.2.2.1 kX8_ofFile).2.2.1) (body : mi_WX QX pP X kX8_ofFile d mc ms 0 (lv_args 0 avs) [] h Q) : mi_SX pP X kX8_ofFile d avs h mc ms Q QX := mi_SX.of pP_ok rfl (by decide +kernel) hn body
def tbX8_play : List (Nat × Instr) := [(0, .iload_n 1), (1, .invokestatic 188), (4, .aload_n 0), (5, .iload_n 1), (6, .invokevirtual 142), (9, .istore_n 2), (10, .iload_n 2), (11, .iconst (-1)), (12, .if_icmp .eq 15), (15, .aload_n 0), (16, .getfield 17), (19, .iload_n 2), (20, .aaload), (21, .getfield 108), (24, .ifCond .eq 14), (27, .new 74), (30, .dup), (31, .ldc_w 285), (34, .invokespecial 78), (37, .athrow), (38, .aload_n 0), (39, .getfield 11), (42, .iload_n 1), (43, .aaload), (44, .getfield 196), (47, .ifCond .ne 14), (50, .aload_n 0), (51, .getfield 11), (54, .iload_n 1), (55, .aaload), (56, .invokevirtual 287), (59, .f2d), (60, .dreturn), (61, .aload_n 0), (62, .aload_n 0), (63, .getfield 17), (66, .iload_n 2), (67, .aaload), (68, .iload_n 1), (69, .iconst 1), (70, .isub), (71, .iload_n 1), (72, .iconst 1), (73, .iadd), (74, .invokevirtual 291), (77, .f2d), (78, .dreturn)]
theorem okX8_play : mi_tb (pP.2.2.2.1 kX8_play).2.1 tbX8_play := mi_tb.of (by decide +kernel)
theorem enX8_play {X : mi_X} {d : Nat} {avs : List Value} {h : mi_H} {mc ms : Nat} {Q : Option Value → mi_H → Prop} (hn : (lg_sl avs).length ≤ (pP.2.2.2.1 kX8_play).2.2.1) (body : mi_W pP X kX8_play d mc ms 0 (lv_args 0 avs) [] h Q) : mi_S pP X kX8_play d avs h mc ms Q := mi_S.of pP_ok rfl (by decide +kernel) hn body
theorem exX8_play {X : mi_X} {d : Nat} {avs : List Value} {h : mi_H} {mc ms : Nat} {Q : Option Value → mi_H → Prop} {QX : Nat → Nat → mi_H → Prop} (hn : (lg_sl avs).length ≤ (pP.2.2.2.1 kX8_play).2.2.1) (body : mi_WX QX pP X kX8_play d mc ms 0 (lv_args 0 avs) [] h Q) : mi_SX pP X kX8_play d avs h mc ms Q QX := mi_SX.of pP_ok rfl (by decide +kernel) hn body
def tbX8_many : List (Nat × Instr) := [(0, .iload_n 1), (68, .aload_n 0), (69, .getfield 42), (72, .ireturn), (73, .aload_n 0), (74, .getfield 46), (77, .ireturn), (78, .aload_n 0), (79, .getfield 49), (82, .ireturn), (83, .aload_n 0), (84, .getfield 52), (87, .ireturn), (88, .aload_n 0), (89, .iconst 0), (90, .invokevirtual 295), (93, .aload_n 0), (94, .iconst 1), (95, .invokevirtual 295), (98, .iadd), (99, .aload_n 0), (100, .iconst 2), (101, .invokevirtual 295), (104, .iadd), (105, .ireturn), (106, .aload_n 0), (107, .iconst 0), (108, .invokevirtual 295), (111, .ireturn), (112, .aload_n 0), (113, .iconst 1), (114, .invokevirtual 295), (117, .ireturn), (118, .aload_n 0), (119, .iconst 2), (120, .invokevirtual 295), (123, .ireturn), (124, .aload_n 0), (125, .getfield 31), (128, .getfield 199), (131, .ireturn), (132, .aload_n 0), (133, .getfield 31), (136, .getfield 298), (139, .ireturn), (140, .aload_n 0), (141, .getfield 55), (144, .ifCond .eq 7), (147, .iconst 1), (148, .goto 4), (151, .iconst 0), (152, .ireturn), (153, .aload_n 0), (154, .getfield 31), (157, .getfield 185), (160, .ireturn), (161, .aload_n 0), (162, .getfield 31), (165, .getfield 182), (168, .ifCond .eq 7), (171, .iconst 1), (172, .goto 4), (175, .iconst 0), (176, .ireturn), (177, .new 74), (180, .dup), (181, .ldc_w 301), (184, .invokespecial 78), (187, .athrow)]
theorem okX8_many : mi_tb (pP.2.2.2.1 kX8_many).2.1 tbX8_many := mi_tb.of (by decide +kernel)
theorem swX8_many_1 : decode (pP.2.2.2.1 kX8_many).2.1 1 = .ok (.tableswitch 176 0 12 #[67, 72, 77, 82, 87, 105, 111, 117, 123, 131, 139, 152, 160], 67) := by decide +kernel
theorem enX8_many {X : mi_X} {d : Nat} {avs : List Value} {h : mi_H} {mc ms : Nat} {Q : Option Value → mi_H → Prop} (hn : (lg_sl avs).length ≤ (pP.2.2.2.1 kX8_many).2.2.1) (body : mi_W pP X kX8_many d mc ms 0 (lv_args 0 avs) [] h Q) : mi_S pP X kX8_many d avs h mc ms Q := mi_S.of pP_ok rfl (by decide +kernel) hn body
theorem exX8_many {X : mi_X} {d : Nat} {avs : List Value} {h : mi_H} {mc ms : Nat} {Q : Option Value → mi_H → Prop} {QX : Nat → Nat → mi_H → Prop} (hn : (lg_sl avs).length ≤ (pP.2.2.2.1 kX8_many).2.2.1) (body : mi_WX QX pP X kX8_many d mc ms 0 (lv_args 0 avs) [] h Q) : mi_SX pP X kX8_many d avs h mc ms Q QX := mi_SX.of pP_ok rfl (by decide +kernel) hn body
def tbX8_wouldTake : List (Nat × Instr) := [(0, .iload_n 1), (1, .invokestatic 188), (4, .iload_n 2), (5, .iconst 1), (6, .if_icmp .lt 9), (9, .iload_n 2), (10, .bipush 40), (12, .if_icmp .le 14), (15, .new 74), (18, .dup), (19, .ldc_w 303), (22, .invokespecial 78), (25, .athrow), (26, .aload_n 0), (27, .getfield 31), (30, .iload_n 1), (31, .iload_n 1), (32, .iload_n 2), (33, .iadd), (34, .sipush 240), (37, .invokestatic 305), (40, .invokevirtual 310), (43, .dreturn)]
theorem okX8_wouldTake : mi_tb (pP.2.2.2.1 kX8_wouldTake).2.1 tbX8_wouldTake := mi_tb.of (by decide +kernel)
theorem enX8_wouldTake {X : mi_X} {d : Nat} {avs : List Value} {h : mi_H} {mc ms : Nat} {Q : Option Value → mi_H → Prop} (hn : (lg_sl avs).length ≤ (pP.2.2.2.1 kX8_wouldTake).2.2.1) (body : mi_W pP X kX8_wouldTake d mc ms 0 (lv_args 0 avs) [] h Q) : mi_S pP X kX8_wouldTake d avs h mc ms Q := mi_S.of pP_ok rfl (by decide +kernel) hn body
theorem exX8_wouldTake {X : mi_X} {d : Nat} {avs : List Value} {h : mi_H} {mc ms : Nat} {Q : Option Value → mi_H → Prop} {QX : Nat → Nat → mi_H → Prop} (hn : (lg_sl avs).length ≤ (pP.2.2.2.1 kX8_wouldTake).2.2.1) (body : mi_WX QX pP X kX8_wouldTake d mc ms 0 (lv_args 0 avs) [] h Q) : mi_SX pP X kX8_wouldTake d avs h mc ms Q QX := mi_SX.of pP_ok rfl (by decide +kernel) hn body
def tbX8_wouldMend : List (Nat × Instr) := [(0, .iload_n 1), (1, .invokestatic 188), (4, .iload_n 2), (5, .ifCond .lt 10), (8, .iload_n 2), (9, .ldc_w 313), (12, .if_icmp .le 14), (15, .new 74), (18, .dup), (19, .ldc_w 314), (22, .invokespecial 78), (25, .athrow), (26, .aload_n 0), (27, .getfield 11), (30, .iload_n 1), (31, .aaload), (32, .iload_n 2), (33, .aload_n 0), (34, .getfield 38), (37, .getfield 316), (40, .invokevirtual 319), (43, .ireturn)]
theorem okX8_wouldMend : mi_tb (pP.2.2.2.1 kX8_wouldMend).2.1 tbX8_wouldMend := mi_tb.of (by decide +kernel)
theorem enX8_wouldMend {X : mi_X} {d : Nat} {avs : List Value} {h : mi_H} {mc ms : Nat} {Q : Option Value → mi_H → Prop} (hn : (lg_sl avs).length ≤ (pP.2.2.2.1 kX8_wouldMend).2.2.1) (body : mi_W pP X kX8_wouldMend d mc ms 0 (lv_args 0 avs) [] h Q) : mi_S pP X kX8_wouldMend d avs h mc ms Q := mi_S.of pP_ok rfl (by decide +kernel) hn body
theorem exX8_wouldMend {X : mi_X} {d : Nat} {avs : List Value} {h : mi_H} {mc ms : Nat} {Q : Option Value → mi_H → Prop} {QX : Nat → Nat → mi_H → Prop} (hn : (lg_sl avs).length ≤ (pP.2.2.2.1 kX8_wouldMend).2.2.1) (body : mi_WX QX pP X kX8_wouldMend d mc ms 0 (lv_args 0 avs) [] h Q) : mi_SX pP X kX8_wouldMend d avs h mc ms Q QX := mi_SX.of pP_ok rfl (by decide +kernel) hn body
def tbX8_digest : List (Nat × Instr) := [(0, .ldc2_w 323), (3, .lstore_n 1), (4, .iconst 0), (5, .istore_n 3), (6, .iload_n 3), (7, .bipush 12), (9, .if_icmp .gt 22), (12, .lload_n 1), (13, .ldc2_w 325), (16, .lmul), (17, .aload_n 0), (18, .iload_n 3), (19, .invokevirtual 327), (22, .i2l), (23, .ladd), (24, .lstore_n 1), (25, .iinc 3 1), (28, .goto (-22)), (31, .aload_n 0), (32, .lload_n 1), (33, .invokevirtual 330), (36, .lstore_n 1), (37, .aload_n 0), (38, .lload_n 1), (39, .invokevirtual 334), (42, .lstore_n 1), (43, .aload_n 0), (44, .lload_n 1), (45, .invokevirtual 337), (48, .lstore_n 1), (49, .lload_n 1), (50, .ldc2_w 325), (53, .lmul), (54, .aload_n 0), (55, .getfield 31), (58, .getfield 206), (61, .d2l), (62, .ladd), (63, .lreturn)]
theorem okX8_digest : mi_tb (pP.2.2.2.1 kX8_digest).2.1 tbX8_digest := mi_tb.of (by decide +kernel)
theorem enX8_digest {X : mi_X} {d : Nat} {avs : List Value} {h : mi_H} {mc ms : Nat} {Q : Option Value → mi_H → Prop} (hn : (lg_sl avs).length ≤ (pP.2.2.2.1 kX8_digest).2.2.1) (body : mi_W pP X kX8_digest d mc ms 0 (lv_args 0 avs) [] h Q) : mi_S pP X kX8_digest d avs h mc ms Q := mi_S.of pP_ok rfl (by decide +kernel) hn body
theorem exX8_digest {X : mi_X} {d : Nat} {avs : List Value} {h : mi_H} {mc ms : Nat} {Q : Option Value → mi_H → Prop} {QX : Nat → Nat → mi_H → Prop} (hn : (lg_sl avs).length ≤ (pP.2.2.2.1 kX8_digest).2.2.1) (body : mi_WX QX pP X kX8_digest d mc ms 0 (lv_args 0 avs) [] h Q) : mi_SX pP X kX8_digest d avs h mc ms Q QX := mi_SX.of pP_ok rfl (by decide +kernel) hn body
def tbX8_digestTracks : List (Nat × Instr) := [(0, .lload_n 1), (1, .lstore_n 3), (2, .iconst 0), (3, .istore 5), (5, .iload 5), (7, .aload_n 0), (8, .getfield 46), (11, .if_icmp .ge 41), (14, .iconst 0), (15, .istore 6), (17, .iload 6), (19, .bipush 7), (21, .if_icmp .gt 25), (24, .lload_n 3), (25, .ldc2_w 325), (28, .lmul), (29, .aload_n 0), (30, .iload 5), (32, .iload 6), (34, .invokevirtual 340), (37, .i2l), (38, .ladd), (39, .lstore_n 3), (40, .iinc 6 1), (43, .goto (-26)), (46, .iinc 5 1), (49, .goto (-44)), (52, .lload_n 3), (53, .lreturn)]
theorem okX8_digestTracks : mi_tb (pP.2.2.2.1 kX8_digestTracks).2.1 tbX8_digestTracks := mi_tb.of (by decide +kernel)
theorem enX8_digestTracks {X : mi_X} {d : Nat} {avs : List Value} {h : mi_H} {mc ms : Nat} {Q : Option Value → mi_H → Prop} (hn : (lg_sl avs).length ≤ (pP.2.2.2.1 kX8_digestTracks).2.2.1) (body : mi_W pP X kX8_digestTracks d mc ms 0 (lv_args 0 avs) [] h Q) : mi_S pP X kX8_digestTracks d avs h mc ms Q := mi_S.of pP_ok rfl (by decide +kernel) hn body
theorem exX8_digestTracks {X : mi_X} {d : Nat} {avs : List Value} {h : mi_H} {mc ms : Nat} {Q : Option Value → mi_H → Prop} {QX : Nat → Nat → mi_H → Prop} (hn : (lg_sl avs).length ≤ (pP.2.2.2.1 kX8_digestTracks).2.2.1) (body : mi_WX QX pP X kX8_digestTracks d mc ms 0 (lv_args 0 avs) [] h Q) : mi_SX pP X kX8_digestTracks d avs h mc ms Q QX := mi_SX.of pP_ok rfl (by decide +kernel) hn body
def tbX8_digestSectors : List (Nat × Instr) := [(0, .lload_n 1), (1, .lstore_n 3), (2, .iconst 0), (3, .istore 5), (5, .iload 5), (7, .sipush 240), (10, .if_icmp .ge 68), (13, .aload_n 0), (14, .getfield 11), (17, .iload 5), (19, .aaload), (20, .getfield 169), (23, .ifCond .eq 49), (26, .iconst 2), (27, .istore 6), (29, .iload 6), (31, .bipush 6), (33, .if_icmp .gt 25), (36, .lload_n 3), (37, .ldc2_w 325), (40, .lmul), (41, .aload_n 0), (42, .iload 5), (44, .iload 6), (46, .invokevirtual 343), (49, .i2l), (50, .ladd), (51, .lstore_n 3), (52, .iinc 6 1), (55, .goto (-26)), (58, .lload_n 3), (59, .ldc2_w 325), (62, .lmul), (63, .aload_n 0), (64, .iload 5), (66, .iconst 1), (67, .invokevirtual 346), (70, .ladd), (71, .lstore_n 3), (72, .iinc 5 1), (75, .goto (-70)), (78, .lload_n 3), (79, .lreturn)]
theorem okX8_digestSectors : mi_tb (pP.2.2.2.1 kX8_digestSectors).2.1 tbX8_digestSectors := mi_tb.of (by decide +kernel)
theorem enX8_digestSectors {X : mi_X} {d : Nat} {avs : List Value} {h : mi_H} {mc ms : Nat} {Q : Option Value → mi_H → Prop} (hn : (lg_sl avs).length ≤ (pP.2.2.2.1 kX8_digestSectors).2.2.1) (body : mi_W pP X kX8_digestSectors d mc ms 0 (lv_args 0 avs) [] h Q) : mi_S pP X kX8_digestSectors d avs h mc ms Q := mi_S.of pP_ok rfl (by decide +kernel) hn body
theorem exX8_digestSectors {X : mi_X} {d : Nat} {avs : List Value} {h : mi_H} {mc ms : Nat} {Q : Option Value → mi_H → Prop} {QX : Nat → Nat → mi_H → Prop} (hn : (lg_sl avs).length ≤ (pP.2.2.2.1 kX8_digestSectors).2.2.1) (body : mi_WX QX pP X kX8_digestSectors d mc ms 0 (lv_args 0 avs) [] h Q) : mi_SX pP X kX8_digestSectors d avs h mc ms Q QX := mi_SX.of pP_ok rfl (by decide +kernel) hn body
def tbX8_digestFiles : List (Nat × Instr) := [(0, .lload_n 1), (1, .lstore_n 3), (2, .iconst 0), (3, .istore 5), (5, .iload 5), (7, .bipush 10), (9, .if_icmp .ge 60), (12, .iconst 0), (13, .istore 6), (15, .iload 6), (17, .aload_n 0), (18, .getfield 42), (21, .if_icmp .ge 42), (24, .iconst 0), (25, .istore 7), (27, .iload 7), (29, .iconst 2), (30, .if_icmp .gt 27), (33, .lload_n 3), (34, .ldc2_w 325), (37, .lmul), (38, .aload_n 0), (39, .iload 5), (41, .iload 6), (43, .iload 7), (45, .invokevirtual 350), (48, .i2l), (49, .ladd), (50, .lstore_n 3), (51, .iinc 7 1), (54, .goto (-27)), (57, .iinc 6 1), (60, .goto (-45)), (63, .iinc 5 1), (66, .goto (-61)), (69, .lload_n 3), (70, .lreturn)]
theorem okX8_digestFiles : mi_tb (pP.2.2.2.1 kX8_digestFiles).2.1 tbX8_digestFiles := mi_tb.of (by decide +kernel)
theorem enX8_digestFiles {X : mi_X} {d : Nat} {avs : List Value} {h : mi_H} {mc ms : Nat} {Q : Option Value → mi_H → Prop} (hn : (lg_sl avs).length ≤ (pP.2.2.2.1 kX8_digestFiles).2.2.1) (body : mi_W pP X kX8_digestFiles d mc ms 0 (lv_args 0 avs) [] h Q) : mi_S pP X kX8_digestFiles d avs h mc ms Q := mi_S.of pP_ok rfl (by decide +kernel) hn body
theorem exX8_digestFiles {X : mi_X} {d : Nat} {avs : List Value} {h : mi_H} {mc ms : Nat} {Q : Option Value → mi_H → Prop} {QX : Nat → Nat → mi_H → Prop} (hn : (lg_sl avs).length ≤ (pP.2.2.2.1 kX8_digestFiles).2.2.1) (body : mi_WX QX pP X kX8_digestFiles d mc ms 0 (lv_args 0 avs) [] h Q) : mi_SX pP X kX8_digestFiles d avs h mc ms Q QX := mi_SX.of pP_ok rfl (by decide +kernel) hn body
def tbX8_isSector : List (Nat × Instr) := [(0, .iload_n 0), (1, .ifCond .lt 14), (4, .iload_n 0), (5, .sipush 240), (8, .if_icmp .ge 7), (11, .iconst 1), (12, .goto 4), (15, .iconst 0), (16, .ireturn)]
theorem okX8_isSector : mi_tb (pP.2.2.2.1 kX8_isSector).2.1 tbX8_isSector := mi_tb.of (by decide +kernel)
theorem enX8_isSector {X : mi_X} {d : Nat} {avs : List Value} {h : mi_H} {mc ms : Nat} {Q : Option Value → mi_H → Prop} (hn : (lg_sl avs).length ≤ (pP.2.2.2.1 kX8_isSector).2.2.1) (body : mi_W pP X kX8_isSector d mc ms 0 (lv_args 0 avs) [] h Q) : mi_S pP X kX8_isSector d avs h mc ms Q := mi_S.of pP_ok rfl (by decide +kernel) hn body
theorem exX8_isSector {X : mi_X} {d : Nat} {avs : List Value} {h : mi_H} {mc ms : Nat} {Q : Option Value → mi_H → Prop} {QX : Nat → Nat → mi_H → Prop} (hn : (lg_sl avs).length ≤ (pP.2.2.2.1 kX8_isSector).2.2.1) (body : mi_WX QX pP X kX8_isSector d mc ms 0 (lv_args 0 avs) [] h Q) : mi_SX pP X kX8_isSector d avs h mc ms Q QX := mi_SX.of pP_ok rfl (by decide +kernel) hn body
def tbX8_checkSector : List (Nat × Instr) := [(0, .iload_n 0), (1, .invokestatic 136), (4, .ifCond .ne 14), (7, .new 246), (10, .dup), (11, .ldc_w 354), (14, .invokespecial 250), (17, .athrow), (18, .return_)]
theorem okX8_checkSector : mi_tb (pP.2.2.2.1 kX8_checkSector).2.1 tbX8_checkSector := mi_tb.of (by decide +kernel)
theorem enX8_checkSector {X : mi_X} {d : Nat} {avs : List Value} {h : mi_H} {mc ms : Nat} {Q : Option Value → mi_H → Prop} (hn : (lg_sl avs).length ≤ (pP.2.2.2.1 kX8_checkSector).2.2.1) (body : mi_W pP X kX8_checkSector d mc ms 0 (lv_args 0 avs) [] h Q) : mi_S pP X kX8_checkSector d avs h mc ms Q := mi_S.of pP_ok rfl (by decide +kernel) hn body
theorem exX8_checkSector {X : mi_X} {d : Nat} {avs : List Value} {h : mi_H} {mc ms : Nat} {Q : Option Value → mi_H → Prop} {QX : Nat → Nat → mi_H → Prop} (hn : (lg_sl avs).length ≤ (pP.2.2.2.1 kX8_checkSector).2.2.1) (body : mi_WX QX pP X kX8_checkSector d mc ms 0 (lv_args 0 avs) [] h Q) : mi_SX pP X kX8_checkSector d avs h mc ms Q QX := mi_SX.of pP_ok rfl (by decide +kernel) hn body
def tbX8_checkFile : List (Nat × Instr) := [(0, .iload_n 0), (1, .ifCond .lt 9), (4, .iload_n 0), (5, .bipush 10), (7, .if_icmp .lt 14), (10, .new 246), (13, .dup), (14, .ldc_w 356), (17, .invokespecial 250), (20, .athrow), (21, .return_)]
theorem okX8_checkFile : mi_tb (pP.2.2.2.1 kX8_checkFile).2.1 tbX8_checkFile := mi_tb.of (by decide +kernel)
theorem enX8_checkFile {X : mi_X} {d : Nat} {avs : List Value} {h : mi_H} {mc ms : Nat} {Q : Option Value → mi_H → Prop} (hn : (lg_sl avs).length ≤ (pP.2.2.2.1 kX8_checkFile).2.2.1) (body : mi_W pP X kX8_checkFile d mc ms 0 (lv_args 0 avs) [] h Q) : mi_S pP X kX8_checkFile d avs h mc ms Q := mi_S.of pP_ok rfl (by decide +kernel) hn body
theorem exX8_checkFile {X : mi_X} {d : Nat} {avs : List Value} {h : mi_H} {mc ms : Nat} {Q : Option Value → mi_H → Prop} {QX : Nat → Nat → mi_H → Prop} (hn : (lg_sl avs).length ≤ (pP.2.2.2.1 kX8_checkFile).2.2.1) (body : mi_WX QX pP X kX8_checkFile d mc ms 0 (lv_args 0 avs) [] h Q) : mi_SX pP X kX8_checkFile d avs h mc ms Q QX := mi_SX.of pP_ok rfl (by decide +kernel) hn body
def tbX8_trackAt : List (Nat × Instr) := [(0, .iload_n 1), (1, .ifCond .lt 11), (4, .iload_n 1), (5, .aload_n 0), (6, .getfield 46), (9, .if_icmp .lt 14), (12, .new 246), (15, .dup), (16, .ldc_w 358), (19, .invokespecial 250), (22, .athrow), (23, .aload_n 0), (24, .getfield 17), (27, .iload_n 1), (28, .aaload), (29, .areturn)]
theorem okX8_trackAt : mi_tb (pP.2.2.2.1 kX8_trackAt).2.1 tbX8_trackAt := mi_tb.of (by decide +kernel)
theorem enX8_trackAt {X : mi_X} {d : Nat} {avs : List Value} {h : mi_H} {mc ms : Nat} {Q : Option Value → mi_H → Prop} (hn : (lg_sl avs).length ≤ (pP.2.2.2.1 kX8_trackAt).2.2.1) (body : mi_W pP X kX8_trackAt d mc ms 0 (lv_args 0 avs) [] h Q) : mi_S pP X kX8_trackAt d avs h mc ms Q := mi_S.of pP_ok rfl (by decide +kernel) hn body
theorem exX8_trackAt {X : mi_X} {d : Nat} {avs : List Value} {h : mi_H} {mc ms : Nat} {Q : Option Value → mi_H → Prop} {QX : Nat → Nat → mi_H → Prop} (hn : (lg_sl avs).length ≤ (pP.2.2.2.1 kX8_trackAt).2.2.1) (body : mi_WX QX pP X kX8_trackAt d mc ms 0 (lv_args 0 avs) [] h Q) : mi_SX pP X kX8_trackAt d avs h mc ms Q QX := mi_SX.of pP_ok rfl (by decide +kernel) hn body
def tbX8_left : List (Nat × Instr) := [(0, .sipush 240), (3, .aload_n 0), (4, .getfield 49), (7, .isub), (8, .ireturn)]
theorem okX8_left : mi_tb (pP.2.2.2.1 kX8_left).2.1 tbX8_left := mi_tb.of (by decide +kernel)
theorem enX8_left {X : mi_X} {d : Nat} {avs : List Value} {h : mi_H} {mc ms : Nat} {Q : Option Value → mi_H → Prop} (hn : (lg_sl avs).length ≤ (pP.2.2.2.1 kX8_left).2.2.1) (body : mi_W pP X kX8_left d mc ms 0 (lv_args 0 avs) [] h Q) : mi_S pP X kX8_left d avs h mc ms Q := mi_S.of pP_ok rfl (by decide +kernel) hn body
theorem exX8_left {X : mi_X} {d : Nat} {avs : List Value} {h : mi_H} {mc ms : Nat} {Q : Option Value → mi_H → Prop} {QX : Nat → Nat → mi_H → Prop} (hn : (lg_sl avs).length ≤ (pP.2.2.2.1 kX8_left).2.2.1) (body : mi_WX QX pP X kX8_left d mc ms 0 (lv_args 0 avs) [] h Q) : mi_SX pP X kX8_left d avs h mc ms Q QX := mi_SX.of pP_ok rfl (by decide +kernel) hn body
def tbX8_trackOf : List (Nat × Instr) := [(0, .iconst 0), (1, .istore_n 2), (2, .iload_n 2), (3, .aload_n 0), (4, .getfield 46), (7, .if_icmp .ge 24), (10, .aload_n 0), (11, .getfield 17), (14, .iload_n 2), (15, .aaload), (16, .iload_n 1), (17, .invokevirtual 146), (20, .ifCond .eq 5), (23, .iload_n 2), (24, .ireturn), (25, .iinc 2 1), (28, .goto (-26)), (31, .iconst (-1)), (32, .ireturn)]
theorem okX8_trackOf : mi_tb (pP.2.2.2.1 kX8_trackOf).2.1 tbX8_trackOf := mi_tb.of (by decide +kernel)
theorem enX8_trackOf {X : mi_X} {d : Nat} {avs : List Value} {h : mi_H} {mc ms : Nat} {Q : Option Value → mi_H → Prop} (hn : (lg_sl avs).length ≤ (pP.2.2.2.1 kX8_trackOf).2.2.1) (body : mi_W pP X kX8_trackOf d mc ms 0 (lv_args 0 avs) [] h Q) : mi_S pP X kX8_trackOf d avs h mc ms Q := mi_S.of pP_ok rfl (by decide +kernel) hn body
theorem exX8_trackOf {X : mi_X} {d : Nat} {avs : List Value} {h : mi_H} {mc ms : Nat} {Q : Option Value → mi_H → Prop} {QX : Nat → Nat → mi_H → Prop} (hn : (lg_sl avs).length ≤ (pP.2.2.2.1 kX8_trackOf).2.2.1) (body : mi_WX QX pP X kX8_trackOf d mc ms 0 (lv_args 0 avs) [] h Q) : mi_SX pP X kX8_trackOf d avs h mc ms Q QX := mi_SX.of pP_ok rfl (by decide +kernel) hn body
def tbX8_hasOpenTrack : List (Nat × Instr) := [(0, .iconst 0), (1, .istore_n 1), (2, .iload_n 1), (3, .aload_n 0), (4, .getfield 46), (7, .if_icmp .ge 23), (10, .aload_n 0), (11, .getfield 17), (14, .iload_n 1), (15, .aaload), (16, .getfield 120), (19, .ifCond .ne 5), (22, .iconst 1), (23, .ireturn), (24, .iinc 1 1), (27, .goto (-25)), (30, .iconst 0), (31, .ireturn)]
theorem okX8_hasOpenTrack : mi_tb (pP.2.2.2.1 kX8_hasOpenTrack).2.1 tbX8_hasOpenTrack := mi_tb.of (by decide +kernel)
theorem enX8_hasOpenTrack {X : mi_X} {d : Nat} {avs : List Value} {h : mi_H} {mc ms : Nat} {Q : Option Value → mi_H → Prop} (hn : (lg_sl avs).length ≤ (pP.2.2.2.1 kX8_hasOpenTrack).2.2.1) (body : mi_W pP X kX8_hasOpenTrack d mc ms 0 (lv_args 0 avs) [] h Q) : mi_S pP X kX8_hasOpenTrack d avs h mc ms Q := mi_S.of pP_ok rfl (by decide +kernel) hn body
theorem exX8_hasOpenTrack {X : mi_X} {d : Nat} {avs : List Value} {h : mi_H} {mc ms : Nat} {Q : Option Value → mi_H → Prop} {QX : Nat → Nat → mi_H → Prop} (hn : (lg_sl avs).length ≤ (pP.2.2.2.1 kX8_hasOpenTrack).2.2.1) (body : mi_WX QX pP X kX8_hasOpenTrack d mc ms 0 (lv_args 0 avs) [] h Q) : mi_SX pP X kX8_hasOpenTrack d avs h mc ms Q QX := mi_SX.of pP_ok rfl (by decide +kernel) hn body
def tbX8_isGood : List (Nat × Instr) := [(0, .iload_n 1), (1, .invokestatic 136), (4, .ifCond .eq 19), (7, .aload_n 0), (8, .getfield 11), (11, .iload_n 1), (12, .aaload), (13, .getfield 196), (16, .ifCond .ne 7), (19, .iconst 1), (20, .goto 4), (23, .iconst 0), (24, .ireturn)]
theorem okX8_isGood : mi_tb (pP.2.2.2.1 kX8_isGood).2.1 tbX8_isGood := mi_tb.of (by decide +kernel)
theorem enX8_isGood {X : mi_X} {d : Nat} {avs : List Value} {h : mi_H} {mc ms : Nat} {Q : Option Value → mi_H → Prop} (hn : (lg_sl avs).length ≤ (pP.2.2.2.1 kX8_isGood).2.2.1) (body : mi_W pP X kX8_isGood d mc ms 0 (lv_args 0 avs) [] h Q) : mi_S pP X kX8_isGood d avs h mc ms Q := mi_S.of pP_ok rfl (by decide +kernel) hn body
theorem exX8_isGood {X : mi_X} {d : Nat} {avs : List Value} {h : mi_H} {mc ms : Nat} {Q : Option Value → mi_H → Prop} {QX : Nat → Nat → mi_H → Prop} (hn : (lg_sl avs).length ≤ (pP.2.2.2.1 kX8_isGood).2.2.1) (body : mi_WX QX pP X kX8_isGood d mc ms 0 (lv_args 0 avs) [] h Q) : mi_SX pP X kX8_isGood d avs h mc ms Q QX := mi_SX.of pP_ok rfl (by decide +kernel) hn body
def tbX8_goodFrom : List (Nat × Instr) := [(0, .iconst 0), (1, .istore_n 3), (2, .iload_n 1), (3, .istore 4), (5, .iload 4), (7, .iload_n 1), (8, .iload_n 2), (9, .iadd), (10, .if_icmp .ge 21), (13, .aload_n 0), (14, .iload 4), (16, .invokevirtual 360), (19, .ifCond .eq 6), (22, .iinc 3 1), (25, .iinc 4 1), (28, .goto (-23)), (31, .iload_n 3), (32, .ireturn)]
theorem okX8_goodFrom : mi_tb (pP.2.2.2.1 kX8_goodFrom).2.1 tbX8_goodFrom := mi_tb.of (by decide +kernel)
theorem enX8_goodFrom {X : mi_X} {d : Nat} {avs : List Value} {h : mi_H} {mc ms : Nat} {Q : Option Value → mi_H → Prop} (hn : (lg_sl avs).length ≤ (pP.2.2.2.1 kX8_goodFrom).2.2.1) (body : mi_W pP X kX8_goodFrom d mc ms 0 (lv_args 0 avs) [] h Q) : mi_S pP X kX8_goodFrom d avs h mc ms Q := mi_S.of pP_ok rfl (by decide +kernel) hn body
theorem exX8_goodFrom {X : mi_X} {d : Nat} {avs : List Value} {h : mi_H} {mc ms : Nat} {Q : Option Value → mi_H → Prop} {QX : Nat → Nat → mi_H → Prop} (hn : (lg_sl avs).length ≤ (pP.2.2.2.1 kX8_goodFrom).2.2.1) (body : mi_WX QX pP X kX8_goodFrom d mc ms 0 (lv_args 0 avs) [] h Q) : mi_SX pP X kX8_goodFrom d avs h mc ms Q QX := mi_SX.of pP_ok rfl (by decide +kernel) hn body
def tbX8_writtenOf : List (Nat × Instr) := [(0, .iconst 0), (1, .istore_n 2), (2, .iconst 0), (3, .istore_n 3), (4, .iload_n 3), (5, .sipush 240), (8, .if_icmp .ge 37), (11, .aload_n 0), (12, .getfield 11), (15, .iload_n 3), (16, .aaload), (17, .getfield 169), (20, .ifCond .eq 19), (23, .aload_n 0), (24, .getfield 11), (27, .iload_n 3), (28, .aaload), (29, .getfield 196), (32, .iload_n 1), (33, .if_icmp .ne 6), (36, .iinc 2 1), (39, .iinc 3 1), (42, .goto (-38)), (45, .iload_n 2), (46, .ireturn)]
theorem okX8_writtenOf : mi_tb (pP.2.2.2.1 kX8_writtenOf).2.1 tbX8_writtenOf := mi_tb.of (by decide +kernel)
theorem enX8_writtenOf {X : mi_X} {d : Nat} {avs : List Value} {h : mi_H} {mc ms : Nat} {Q : Option Value → mi_H → Prop} (hn : (lg_sl avs).length ≤ (pP.2.2.2.1 kX8_writtenOf).2.2.1) (body : mi_W pP X kX8_writtenOf d mc ms 0 (lv_args 0 avs) [] h Q) : mi_S pP X kX8_writtenOf d avs h mc ms Q := mi_S.of pP_ok rfl (by decide +kernel) hn body
theorem exX8_writtenOf {X : mi_X} {d : Nat} {avs : List Value} {h : mi_H} {mc ms : Nat} {Q : Option Value → mi_H → Prop} {QX : Nat → Nat → mi_H → Prop} (hn : (lg_sl avs).length ≤ (pP.2.2.2.1 kX8_writtenOf).2.2.1) (body : mi_WX QX pP X kX8_writtenOf d mc ms 0 (lv_args 0 avs) [] h Q) : mi_SX pP X kX8_writtenOf d avs h mc ms Q QX := mi_SX.of pP_ok rfl (by decide +kernel) hn body
def tbX8_sampleBetween : List (Nat × Instr) := [(0, .aload_n 1), (1, .iload_n 2), (2, .invokevirtual 146), (5, .ifCond .eq 15), (8, .aload_n 0), (9, .iload_n 2), (10, .invokevirtual 360), (13, .ifCond .eq 7), (16, .iconst 1), (17, .goto 4), (20, .iconst 0), (21, .istore 4), (23, .aload_n 1), (24, .iload_n 3), (25, .invokevirtual 146), (28, .ifCond .eq 15), (31, .aload_n 0), (32, .iload_n 3), (33, .invokevirtual 360), (36, .ifCond .eq 7), (39, .iconst 1), (40, .goto 4), (43, .iconst 0), (44, .istore 5), (46, .iload 4), (48, .ifCond .eq 32), (51, .iload 5), (53, .ifCond .eq 27), (56, .aload_n 0), (57, .getfield 11), (60, .iload_n 2), (61, .aaload), (62, .invokevirtual 287), (65, .aload_n 0), (66, .getfield 11), (69, .iload_n 3), (70, .aaload), (71, .invokevirtual 287), (74, .fadd), (75, .ldc_w 363), (78, .fmul), (79, .freturn), (80, .iload 4), (82, .ifCond .eq 17), (85, .ldc_w 364), (88, .aload_n 0), (89, .getfield 11), (92, .iload_n 2), (93, .aaload), (94, .invokevirtual 287), (97, .fmul), (98, .freturn), (99, .iload 5), (101, .ifCond .eq 17), (104, .ldc_w 364), (107, .aload_n 0), (108, .getfield 11), (111, .iload_n 3), (112, .aaload), (113, .invokevirtual 287), (116, .fmul), (117, .freturn), (118, .fconst 0), (119, .freturn)]
theorem okX8_sampleBetween : mi_tb (pP.2.2.2.1 kX8_sampleBetween).2.1 tbX8_sampleBetween := mi_tb.of (by decide +kernel)
theorem enX8_sampleBetween {X : mi_X} {d : Nat} {avs : List Value} {h : mi_H} {mc ms : Nat} {Q : Option Value → mi_H → Prop} (hn : (lg_sl avs).length ≤ (pP.2.2.2.1 kX8_sampleBetween).2.2.1) (body : mi_W pP X kX8_sampleBetween d mc ms 0 (lv_args 0 avs) [] h Q) : mi_S pP X kX8_sampleBetween d avs h mc ms Q := mi_S.of pP_ok rfl (by decide +kernel) hn body
theorem exX8_sampleBetween {X : mi_X} {d : Nat} {avs : List Value} {h : mi_H} {mc ms : Nat} {Q : Option Value → mi_H → Prop} {QX : Nat → Nat → mi_H → Prop} (hn : (lg_sl avs).length ≤ (pP.2.2.2.1 kX8_sampleBetween).2.2.1) (body : mi_WX QX pP X kX8_sampleBetween d mc ms 0 (lv_args 0 avs) [] h Q) : mi_SX pP X kX8_sampleBetween d avs h mc ms Q QX := mi_SX.of pP_ok rfl (by decide +kernel) hn body
def tbX0_init : List (Nat × Instr) := [(0, .aload_n 0), (1, .invokespecial 1), (4, .aload_n 0), (5, .new 7), (8, .dup), (9, .invokespecial 9), (12, .putfield 10), (15, .aload_n 0), (16, .new 16), (19, .dup), (20, .invokespecial 18), (23, .putfield 19), (26, .return_)]
theorem okX0_init : mi_tb (pP.2.2.2.1 kX0_init).2.1 tbX0_init := mi_tb.of (by decide +kernel)
theorem enX0_init {X : mi_X} {d : Nat} {avs : List Value} {h : mi_H} {mc ms : Nat} {Q : Option Value → mi_H → Prop} (hn : (lg_sl avs).length ≤ (pP.2.2.2.1 kX0_init).2.2.1) (body : mi_W pP X kX0_init d mc ms 0 (lv_args 0 avs) [] h Q) : mi_S pP X kX0_init d avs h mc ms Q := mi_S.of pP_ok rfl (by decide +kernel) hn body
def tbX1_init : List (Nat × Instr) := [(0, .aload_n 0), (1, .invokespecial 3), (4, .aload_n 0), (5, .lconst 0), (6, .putfield 9), (9, .aload_n 0), (10, .iconst 0), (11, .putfield 15), (14, .return_)]
theorem okX1_init : mi_tb (pP.2.2.2.1 kX1_init).2.1 tbX1_init := mi_tb.of (by decide +kernel)
theorem enX1_init {X : mi_X} {d : Nat} {avs : List Value} {h : mi_H} {mc ms : Nat} {Q : Option Value → mi_H → Prop} (hn : (lg_sl avs).length ≤ (pP.2.2.2.1 kX1_init).2.2.1) (body : mi_W pP X kX1_init d mc ms 0 (lv_args 0 avs) [] h Q) : mi_S pP X kX1_init d avs h mc ms Q := mi_S.of pP_ok rfl (by decide +kernel) hn body
def tbX1_valueAt : List (Nat × Instr) := [(0, .aload_n 0), (1, .getfield 9), (4, .iconst 4), (5, .iload_n 1), (6, .imul), (7, .lushr), (8, .l2i), (9, .bipush 15), (11, .iand), (12, .ireturn)]
theorem okX1_valueAt : mi_tb (pP.2.2.2.1 kX1_valueAt).2.1 tbX1_valueAt := mi_tb.of (by decide +kernel)
theorem enX1_valueAt {X : mi_X} {d : Nat} {avs : List Value} {h : mi_H} {mc ms : Nat} {Q : Option Value → mi_H → Prop} (hn : (lg_sl avs).length ≤ (pP.2.2.2.1 kX1_valueAt).2.2.1) (body : mi_W pP X kX1_valueAt d mc ms 0 (lv_args 0 avs) [] h Q) : mi_S pP X kX1_valueAt d avs h mc ms Q := mi_S.of pP_ok rfl (by decide +kernel) hn body
def tbX1_isErased : List (Nat × Instr) := [(0, .aload_n 0), (1, .getfield 15), (4, .iload_n 1), (5, .iushr), (6, .iconst 1), (7, .iand), (8, .iconst 1), (9, .if_icmp .ne 7), (12, .iconst 1), (13, .goto 4), (16, .iconst 0), (17, .ireturn)]
theorem okX1_isErased : mi_tb (pP.2.2.2.1 kX1_isErased).2.1 tbX1_isErased := mi_tb.of (by decide +kernel)
theorem enX1_isErased {X : mi_X} {d : Nat} {avs : List Value} {h : mi_H} {mc ms : Nat} {Q : Option Value → mi_H → Prop} (hn : (lg_sl avs).length ≤ (pP.2.2.2.1 kX1_isErased).2.2.1) (body : mi_W pP X kX1_isErased d mc ms 0 (lv_args 0 avs) [] h Q) : mi_S pP X kX1_isErased d avs h mc ms Q := mi_S.of pP_ok rfl (by decide +kernel) hn body
def tbX1_put : List (Nat × Instr) := [(0, .aload_n 0), (1, .aload_n 0), (2, .getfield 9), (5, .ldc2_w 19), (8, .iconst 4), (9, .iload_n 1), (10, .imul), (11, .lshl), (12, .ldc2_w 21), (15, .lxor), (16, .land), (17, .iload_n 2), (18, .bipush 15), (20, .iand), (21, .i2l), (22, .iconst 4), (23, .iload_n 1), (24, .imul), (25, .lshl), (26, .lor), (27, .putfield 9), (30, .return_)]
theorem okX1_put : mi_tb (pP.2.2.2.1 kX1_put).2.1 tbX1_put := mi_tb.of (by decide +kernel)
theorem enX1_put {X : mi_X} {d : Nat} {avs : List Value} {h : mi_H} {mc ms : Nat} {Q : Option Value → mi_H → Prop} (hn : (lg_sl avs).length ≤ (pP.2.2.2.1 kX1_put).2.2.1) (body : mi_W pP X kX1_put d mc ms 0 (lv_args 0 avs) [] h Q) : mi_S pP X kX1_put d avs h mc ms Q := mi_S.of pP_ok rfl (by decide +kernel) hn body
def tbX1_erase : List (Nat × Instr) := [(0, .aload_n 0), (1, .dup), (2, .getfield 15), (5, .iload_n 1), (6, .ior), (7, .putfield 15), (10, .iconst 0), (11, .istore_n 2), (12, .iload_n 2), (13, .bipush 16), (15, .if_icmp .ge 23), (18, .aload_n 0), (19, .iload_n 2), (20, .invokevirtual 23), (23, .ifCond .eq 9), (26, .aload_n 0), (27, .iload_n 2), (28, .iconst 0), (29, .invokevirtual 27), (32, .iinc 2 1), (35, .goto (-23)), (38, .return_)]
theorem okX1_erase : mi_tb (pP.2.2.2.1 kX1_erase).2.1 tbX1_erase := mi_tb.of (by decide +kernel)
theorem enX1_erase {X : mi_X} {d : Nat} {avs : List Value} {h : mi_H} {mc ms : Nat} {Q : Option Value → mi_H → Prop} (hn : (lg_sl avs).length ≤ (pP.2.2.2.1 kX1_erase).2.2.1) (body : mi_W pP X kX1_erase d mc ms 0 (lv_args 0 avs) [] h Q) : mi_S pP X kX1_erase d avs h mc ms Q := mi_S.of pP_ok rfl (by decide +kernel) hn body
def tbX1_copyFrom : List (Nat × Instr) := [(0, .aload_n 0), (1, .aload_n 1), (2, .getfield 9), (5, .putfield 9), (8, .aload_n 0), (9, .aload_n 1), (10, .getfield 15), (13, .putfield 15), (16, .return_)]
theorem okX1_copyFrom : mi_tb (pP.2.2.2.1 kX1_copyFrom).2.1 tbX1_copyFrom := mi_tb.of (by decide +kernel)
theorem enX1_copyFrom {X : mi_X} {d : Nat} {avs : List Value} {h : mi_H} {mc ms : Nat} {Q : Option Value → mi_H → Prop} (hn : (lg_sl avs).length ≤ (pP.2.2.2.1 kX1_copyFrom).2.2.1) (body : mi_W pP X kX1_copyFrom d mc ms 0 (lv_args 0 avs) [] h Q) : mi_S pP X kX1_copyFrom d avs h mc ms Q := mi_S.of pP_ok rfl (by decide +kernel) hn body
def tbX1_spread : List (Nat × Instr) := [(0, .aload_n 0), (1, .lconst 0), (2, .putfield 9), (5, .aload_n 0), (6, .iconst 0), (7, .putfield 15), (10, .iconst 0), (11, .istore_n 3), (12, .iload_n 3), (13, .bipush 9), (15, .if_icmp .ge 26), (18, .aload_n 0), (19, .iload_n 3), (20, .invokestatic 31), (23, .lload_n 1), (24, .iconst 4), (25, .iload_n 3), (26, .imul), (27, .lushr), (28, .l2i), (29, .bipush 15), (31, .iand), (32, .invokevirtual 27), (35, .iinc 3 1), (38, .goto (-26)), (41, .iconst 0), (42, .istore_n 3), (43, .iload_n 3), (44, .iconst 3), (45, .if_icmp .ge 23), (48, .aload_n 0), (49, .iconst 4), (50, .iload_n 3), (51, .imul), (52, .iconst 3), (53, .iadd), (54, .aload_n 0), (55, .iload_n 3), (56, .invokevirtual 35), (59, .invokevirtual 27), (62, .iinc 3 1), (65, .goto (-22)), (68, .iconst 0), (69, .istore_n 3), (70, .iload_n 3), (71, .iconst 4), (72, .if_icmp .ge 24), (75, .aload_n 0), (76, .bipush 12), (78, .iload_n 3), (79, .iadd), (80, .aload_n 0), (81, .iconst 4), (82, .iload_n 3), (83, .iadd), (84, .invokevirtual 35), (87, .invokevirtual 27), (90, .iinc 3 1), (93, .goto (-23)), (96, .return_)]
theorem okX1_spread : mi_tb (pP.2.2.2.1 kX1_spread).2.1 tbX1_spread := mi_tb.of (by decide +kernel)
theorem enX1_spread {X : mi_X} {d : Nat} {avs : List Value} {h : mi_H} {mc ms : Nat} {Q : Option Value → mi_H → Prop} (hn : (lg_sl avs).length ≤ (pP.2.2.2.1 kX1_spread).2.2.1) (body : mi_W pP X kX1_spread d mc ms 0 (lv_args 0 avs) [] h Q) : mi_S pP X kX1_spread d avs h mc ms Q := mi_S.of pP_ok rfl (by decide +kernel) hn body
def tbX1_gathered : List (Nat × Instr) := [(0, .lconst 0), (1, .lstore_n 1), (2, .iconst 0), (3, .istore_n 3), (4, .iload_n 3), (5, .bipush 9), (7, .if_icmp .ge 25), (10, .lload_n 1), (11, .aload_n 0), (12, .iload_n 3), (13, .invokestatic 31), (16, .invokevirtual 38), (19, .i2l), (20, .iconst 4), (21, .iload_n 3), (22, .imul), (23, .lshl), (24, .lor), (25, .lstore_n 1), (26, .iinc 3 1), (29, .goto (-25)), (32, .lload_n 1), (33, .lreturn)]
theorem okX1_gathered : mi_tb (pP.2.2.2.1 kX1_gathered).2.1 tbX1_gathered := mi_tb.of (by decide +kernel)
theorem enX1_gathered {X : mi_X} {d : Nat} {avs : List Value} {h : mi_H} {mc ms : Nat} {Q : Option Value → mi_H → Prop} (hn : (lg_sl avs).length ≤ (pP.2.2.2.1 kX1_gathered).2.2.1) (body : mi_W pP X kX1_gathered d mc ms 0 (lv_args 0 avs) [] h Q) : mi_S pP X kX1_gathered d avs h mc ms Q := mi_S.of pP_ok rfl (by decide +kernel) hn body
def tbX1_mend : List (Nat × Instr) := [(0, .aload_n 0), (1, .invokevirtual 41), (4, .aload_n 0), (5, .getfield 15), (8, .ifCond .eq 4), (11, .return_), (12, .aload_n 0), (13, .iconst 0), (14, .invokevirtual 44), (17, .istore_n 1), (18, .aload_n 0), (19, .iconst 4), (20, .invokevirtual 44), (23, .istore_n 2), (24, .iload_n 1), (25, .iconst (-1)), (26, .if_icmp .eq 32), (29, .iload_n 2), (30, .iconst (-1)), (31, .if_icmp .eq 27), (34, .iconst 4), (35, .iload_n 1), (36, .imul), (37, .iload_n 2), (38, .iadd), (39, .iconst 4), (40, .isub), (41, .istore_n 3), (42, .aload_n 0), (43, .iload_n 3), (44, .aload_n 0), (45, .iload_n 3), (46, .invokevirtual 38), (49, .aload_n 0), (50, .iload_n 1), (51, .invokevirtual 35), (54, .ixor), (55, .invokevirtual 27), (58, .return_)]
theorem okX1_mend : mi_tb (pP.2.2.2.1 kX1_mend).2.1 tbX1_mend := mi_tb.of (by decide +kernel)
theorem enX1_mend {X : mi_X} {d : Nat} {avs : List Value} {h : mi_H} {mc ms : Nat} {Q : Option Value → mi_H → Prop} (hn : (lg_sl avs).length ≤ (pP.2.2.2.1 kX1_mend).2.2.1) (body : mi_W pP X kX1_mend d mc ms 0 (lv_args 0 avs) [] h Q) : mi_S pP X kX1_mend d avs h mc ms Q := mi_S.of pP_ok rfl (by decide +kernel) hn body
def tbX1_isEven : List (Nat × Instr) := [(0, .iconst 0), (1, .istore_n 1), (2, .iload_n 1), (3, .bipush 8), (5, .if_icmp .ge 19), (8, .aload_n 0), (9, .iload_n 1), (10, .invokevirtual 35), (13, .ifCond .eq 5), (16, .iconst 0), (17, .ireturn), (18, .iinc 1 1), (21, .goto (-19)), (24, .iconst 1), (25, .ireturn)]
theorem okX1_isEven : mi_tb (pP.2.2.2.1 kX1_isEven).2.1 tbX1_isEven := mi_tb.of (by decide +kernel)
theorem enX1_isEven {X : mi_X} {d : Nat} {avs : List Value} {h : mi_H} {mc ms : Nat} {Q : Option Value → mi_H → Prop} (hn : (lg_sl avs).length ≤ (pP.2.2.2.1 kX1_isEven).2.2.1) (body : mi_W pP X kX1_isEven d mc ms 0 (lv_args 0 avs) [] h Q) : mi_S pP X kX1_isEven d avs h mc ms Q := mi_S.of pP_ok rfl (by decide +kernel) hn body
def tbX1_fillErased : List (Nat × Instr) := [(0, .aload_n 0), (1, .getfield 15), (4, .ifCond .eq 7), (7, .iconst 1), (8, .goto 4), (11, .iconst 0), (12, .istore_n 1), (13, .iconst 0), (14, .istore_n 2), (15, .iload_n 1), (16, .ifCond .eq 81), (19, .iload_n 2), (20, .bipush 16), (22, .if_icmp .gt 75), (25, .iconst 0), (26, .istore_n 1), (27, .iconst 0), (28, .istore_n 3), (29, .iload_n 3), (30, .bipush 8), (32, .if_icmp .ge 59), (35, .aload_n 0), (36, .getfield 15), (39, .getstatic 47), (42, .iload_n 3), (43, .iaload), (44, .iand), (45, .istore 4), (47, .iload 4), (49, .invokestatic 51), (52, .iconst 1), (53, .if_icmp .ne 32), (56, .aload_n 0), (57, .iload 4), (59, .invokestatic 56), (62, .aload_n 0), (63, .iload_n 3), (64, .invokevirtual 35), (67, .invokevirtual 27), (70, .aload_n 0), (71, .dup), (72, .getfield 15), (75, .iload 4), (77, .iconst (-1)), (78, .ixor), (79, .iand), (80, .putfield 15), (83, .iconst 1), (84, .istore_n 1), (85, .iinc 3 1), (88, .goto (-59)), (91, .iinc 2 1), (94, .goto (-79)), (97, .return_)]
theorem okX1_fillErased : mi_tb (pP.2.2.2.1 kX1_fillErased).2.1 tbX1_fillErased := mi_tb.of (by decide +kernel)
theorem enX1_fillErased {X : mi_X} {d : Nat} {avs : List Value} {h : mi_H} {mc ms : Nat} {Q : Option Value → mi_H → Prop} (hn : (lg_sl avs).length ≤ (pP.2.2.2.1 kX1_fillErased).2.2.1) (body : mi_W pP X kX1_fillErased d mc ms 0 (lv_args 0 avs) [] h Q) : mi_S pP X kX1_fillErased d avs h mc ms Q := mi_S.of pP_ok rfl (by decide +kernel) hn body
def tbX1_onlyOddOf : List (Nat × Instr) := [(0, .iconst (-1)), (1, .istore_n 2), (2, .iload_n 1), (3, .istore_n 3), (4, .iload_n 3), (5, .iload_n 1), (6, .iconst 4), (7, .iadd), (8, .if_icmp .ge 26), (11, .aload_n 0), (12, .iload_n 3), (13, .invokevirtual 35), (16, .ifCond .eq 12), (19, .iload_n 2), (20, .iconst (-1)), (21, .if_icmp .eq 5), (24, .iconst (-1)), (25, .ireturn), (26, .iload_n 3), (27, .istore_n 2), (28, .iinc 3 1), (31, .goto (-27)), (34, .iload_n 2), (35, .ireturn)]
theorem okX1_onlyOddOf : mi_tb (pP.2.2.2.1 kX1_onlyOddOf).2.1 tbX1_onlyOddOf := mi_tb.of (by decide +kernel)
theorem enX1_onlyOddOf {X : mi_X} {d : Nat} {avs : List Value} {h : mi_H} {mc ms : Nat} {Q : Option Value → mi_H → Prop} (hn : (lg_sl avs).length ≤ (pP.2.2.2.1 kX1_onlyOddOf).2.2.1) (body : mi_W pP X kX1_onlyOddOf d mc ms 0 (lv_args 0 avs) [] h Q) : mi_S pP X kX1_onlyOddOf d avs h mc ms Q := mi_S.of pP_ok rfl (by decide +kernel) hn body
def tbX1_parityOf : List (Nat × Instr) := [(0, .iload_n 1), (1, .iconst 4), (2, .if_icmp .ge 7), (5, .iconst 1), (6, .goto 4), (9, .iconst 0), (10, .istore_n 2), (11, .iload_n 2), (12, .ifCond .eq 9), (15, .iconst 4), (16, .iload_n 1), (17, .imul), (18, .goto 6), (21, .iload_n 1), (22, .iconst 4), (23, .isub), (24, .istore_n 3), (25, .iload_n 2), (26, .ifCond .eq 7), (29, .iconst 1), (30, .goto 4), (33, .iconst 4), (34, .istore 4), (36, .iconst 0), (37, .istore 5), (39, .iconst 0), (40, .istore 6), (42, .iload 6), (44, .iconst 4), (45, .if_icmp .ge 25), (48, .iload 5), (50, .aload_n 0), (51, .iload_n 3), (52, .iload 6), (54, .iload 4), (56, .imul), (57, .iadd), (58, .invokevirtual 38), (61, .ixor), (62, .istore 5), (64, .iinc 6 1), (67, .goto (-25)), (70, .iload 5), (72, .ireturn)]
theorem okX1_parityOf : mi_tb (pP.2.2.2.1 kX1_parityOf).2.1 tbX1_parityOf := mi_tb.of (by decide +kernel)
theorem enX1_parityOf {X : mi_X} {d : Nat} {avs : List Value} {h : mi_H} {mc ms : Nat} {Q : Option Value → mi_H → Prop} (hn : (lg_sl avs).length ≤ (pP.2.2.2.1 kX1_parityOf).2.2.1) (body : mi_W pP X kX1_parityOf d mc ms 0 (lv_args 0 avs) [] h Q) : mi_S pP X kX1_parityOf d avs h mc ms Q := mi_S.of pP_ok rfl (by decide +kernel) hn body
def tbX1_placeOf : List (Nat × Instr) := [(0, .iload_n 0), (1, .iconst 3), (2, .idiv), (3, .iconst 4), (4, .imul), (5, .iload_n 0), (6, .iconst 3), (7, .irem), (8, .iadd), (9, .ireturn)]
theorem okX1_placeOf : mi_tb (pP.2.2.2.1 kX1_placeOf).2.1 tbX1_placeOf := mi_tb.of (by decide +kernel)
theorem enX1_placeOf {X : mi_X} {d : Nat} {avs : List Value} {h : mi_H} {mc ms : Nat} {Q : Option Value → mi_H → Prop} (hn : (lg_sl avs).length ≤ (pP.2.2.2.1 kX1_placeOf).2.2.1) (body : mi_W pP X kX1_placeOf d mc ms 0 (lv_args 0 avs) [] h Q) : mi_S pP X kX1_placeOf d avs h mc ms Q := mi_S.of pP_ok rfl (by decide +kernel) hn body
def tbX2_init : List (Nat × Instr) := [(0, .aload_n 0), (1, .invokespecial 3), (4, .aload_n 0), (5, .iconst 0), (6, .putfield 9), (9, .aload_n 0), (10, .dconst 0), (11, .putfield 15), (14, .aload_n 0), (15, .iconst 0), (16, .putfield 19), (19, .aload_n 0), (20, .iconst 0), (21, .putfield 22), (24, .aload_n 0), (25, .iconst 0), (26, .putfield 26), (29, .return_)]
theorem okX2_init : mi_tb (pP.2.2.2.1 kX2_init).2.1 tbX2_init := mi_tb.of (by decide +kernel)
theorem enX2_init {X : mi_X} {d : Nat} {avs : List Value} {h : mi_H} {mc ms : Nat} {Q : Option Value → mi_H → Prop} (hn : (lg_sl avs).length ≤ (pP.2.2.2.1 kX2_init).2.2.1) (body : mi_W pP X kX2_init d mc ms 0 (lv_args 0 avs) [] h Q) : mi_S pP X kX2_init d avs h mc ms Q := mi_S.of pP_ok rfl (by decide +kernel) hn body
def tbX2_seekTime : List (Nat × Instr) := [(0, .iload_n 0), (1, .iload_n 1), (2, .if_icmp .ne 5), (5, .dconst 0), (6, .dreturn), (7, .ldc2_w 29), (10, .ldc2_w 31), (13, .iload_n 1), (14, .invokestatic 33), (17, .iload_n 0), (18, .invokestatic 33), (21, .isub), (22, .invokestatic 39), (25, .i2d), (26, .dmul), (27, .dadd), (28, .dstore_n 2), (29, .iload_n 1), (30, .invokestatic 44), (33, .iload_n 0), (34, .invokestatic 44), (37, .dsub), (38, .ldc2_w 48), (41, .dload_n 2), (42, .dmul), (43, .dsub), (44, .dstore 4), (46, .dload_n 2), (47, .dload 4), (49, .invokestatic 50), (52, .ldc2_w 48), (55, .ddiv), (56, .dadd), (57, .dreturn)]
theorem okX2_seekTime : mi_tb (pP.2.2.2.1 kX2_seekTime).2.1 tbX2_seekTime := mi_tb.of (by decide +kernel)
theorem enX2_seekTime {X : mi_X} {d : Nat} {avs : List Value} {h : mi_H} {mc ms : Nat} {Q : Option Value → mi_H → Prop} (hn : (lg_sl avs).length ≤ (pP.2.2.2.1 kX2_seekTime).2.2.1) (body : mi_W pP X kX2_seekTime d mc ms 0 (lv_args 0 avs) [] h Q) : mi_S pP X kX2_seekTime d avs h mc ms Q := mi_S.of pP_ok rfl (by decide +kernel) hn body
def tbX2_restOfTurn : List (Nat × Instr) := [(0, .dload_n 0), (1, .ldc2_w 54), (4, .dload_n 0), (5, .ldc2_w 54), (8, .ddiv), (9, .d2i), (10, .i2d), (11, .dmul), (12, .dsub), (13, .dstore_n 2), (14, .dload_n 2), (15, .dconst 0), (16, .dcmp .g), (17, .ifCond .ge 11), (20, .dload_n 2), (21, .ldc2_w 54), (24, .dadd), (25, .goto 4), (28, .dload_n 2), (29, .dreturn)]
theorem okX2_restOfTurn : mi_tb (pP.2.2.2.1 kX2_restOfTurn).2.1 tbX2_restOfTurn := mi_tb.of (by decide +kernel)
theorem enX2_restOfTurn {X : mi_X} {d : Nat} {avs : List Value} {h : mi_H} {mc ms : Nat} {Q : Option Value → mi_H → Prop} (hn : (lg_sl avs).length ≤ (pP.2.2.2.1 kX2_restOfTurn).2.2.1) (body : mi_W pP X kX2_restOfTurn d mc ms 0 (lv_args 0 avs) [] h Q) : mi_S pP X kX2_restOfTurn d avs h mc ms Q := mi_S.of pP_ok rfl (by decide +kernel) hn body
def tbX2_clockBehind : List (Nat × Instr) := [(0, .dload_n 0), (1, .iload_n 2), (2, .iload_n 3), (3, .invokestatic 56), (6, .dadd), (7, .dstore 4), (9, .dload 4), (11, .ldc2_w 60), (14, .iload_n 3), (15, .invokestatic 62), (18, .f2d), (19, .ddiv), (20, .dadd), (21, .dreturn)]
theorem okX2_clockBehind : mi_tb (pP.2.2.2.1 kX2_clockBehind).2.1 tbX2_clockBehind := mi_tb.of (by decide +kernel)
theorem enX2_clockBehind {X : mi_X} {d : Nat} {avs : List Value} {h : mi_H} {mc ms : Nat} {Q : Option Value → mi_H → Prop} (hn : (lg_sl avs).length ≤ (pP.2.2.2.1 kX2_clockBehind).2.2.1) (body : mi_W pP X kX2_clockBehind d mc ms 0 (lv_args 0 avs) [] h Q) : mi_S pP X kX2_clockBehind d avs h mc ms Q := mi_S.of pP_ok rfl (by decide +kernel) hn body
def tbX2_headBehind : List (Nat × Instr) := [(0, .iload_n 0), (1, .iconst 1), (2, .iadd), (3, .sipush 239), (6, .invokestatic 66), (9, .ireturn)]
theorem okX2_headBehind : mi_tb (pP.2.2.2.1 kX2_headBehind).2.1 tbX2_headBehind := mi_tb.of (by decide +kernel)
theorem enX2_headBehind {X : mi_X} {d : Nat} {avs : List Value} {h : mi_H} {mc ms : Nat} {Q : Option Value → mi_H → Prop} (hn : (lg_sl avs).length ≤ (pP.2.2.2.1 kX2_headBehind).2.2.1) (body : mi_W pP X kX2_headBehind d mc ms 0 (lv_args 0 avs) [] h Q) : mi_S pP X kX2_headBehind d avs h mc ms Q := mi_S.of pP_ok rfl (by decide +kernel) hn body
def tbX2_passOver : List (Nat × Instr) := [(0, .aload_n 0), (1, .aload_n 0), (2, .getfield 15), (5, .aload_n 0), (6, .getfield 9), (9, .iload_n 1), (10, .invokestatic 70), (13, .putfield 15), (16, .aload_n 0), (17, .iload_n 1), (18, .invokestatic 74), (21, .putfield 9), (24, .aload_n 0), (25, .dup), (26, .getfield 19), (29, .iconst 1), (30, .iadd), (31, .putfield 19), (34, .return_)]
theorem okX2_passOver : mi_tb (pP.2.2.2.1 kX2_passOver).2.1 tbX2_passOver := mi_tb.of (by decide +kernel)
theorem enX2_passOver {X : mi_X} {d : Nat} {avs : List Value} {h : mi_H} {mc ms : Nat} {Q : Option Value → mi_H → Prop} (hn : (lg_sl avs).length ≤ (pP.2.2.2.1 kX2_passOver).2.2.1) (body : mi_W pP X kX2_passOver d mc ms 0 (lv_args 0 avs) [] h Q) : mi_S pP X kX2_passOver d avs h mc ms Q := mi_S.of pP_ok rfl (by decide +kernel) hn body
def tbX2_timeOver : List (Nat × Instr) := [(0, .aload_n 0), (1, .getfield 15), (4, .dstore_n 3), (5, .aload_n 0), (6, .getfield 9), (9, .istore 5), (11, .iload_n 1), (12, .istore 6), (14, .iload 6), (16, .iload_n 2), (17, .if_icmp .ge 25), (20, .dload_n 3), (21, .iload 5), (23, .iload 6), (25, .invokestatic 70), (28, .dstore_n 3), (29, .iload 6), (31, .invokestatic 74), (34, .istore 5), (36, .iinc 6 1), (39, .goto (-25)), (42, .dload_n 3), (43, .aload_n 0), (44, .getfield 15), (47, .dsub), (48, .dreturn)]
theorem okX2_timeOver : mi_tb (pP.2.2.2.1 kX2_timeOver).2.1 tbX2_timeOver := mi_tb.of (by decide +kernel)
theorem enX2_timeOver {X : mi_X} {d : Nat} {avs : List Value} {h : mi_H} {mc ms : Nat} {Q : Option Value → mi_H → Prop} (hn : (lg_sl avs).length ≤ (pP.2.2.2.1 kX2_timeOver).2.2.1) (body : mi_W pP X kX2_timeOver d mc ms 0 (lv_args 0 avs) [] h Q) : mi_S pP X kX2_timeOver d avs h mc ms Q := mi_S.of pP_ok rfl (by decide +kernel) hn body
def tbX3_init : List (Nat × Instr) := [(0, .aload_n 0), (1, .invokespecial 3), (4, .aload_n 0), (5, .bipush 10), (7, .iconst 3), (8, .multianewarray 9 2), (12, .putfield 11), (15, .aload_n 0), (16, .bipush 10), (18, .iconst 3), (19, .multianewarray 9 2), (23, .putfield 16), (26, .return_)]
theorem okX3_init : mi_tb (pP.2.2.2.1 kX3_init).2.1 tbX3_init := mi_tb.of (by decide +kernel)
theorem enX3_init {X : mi_X} {d : Nat} {avs : List Value} {h : mi_H} {mc ms : Nat} {Q : Option Value → mi_H → Prop} (hn : (lg_sl avs).length ≤ (pP.2.2.2.1 kX3_init).2.2.1) (body : mi_W pP X kX3_init d mc ms 0 (lv_args 0 avs) [] h Q) : mi_S pP X kX3_init d avs h mc ms Q := mi_S.of pP_ok rfl (by decide +kernel) hn body
def tbX3_tell : List (Nat × Instr) := [(0, .aload_n 0), (1, .getfield 11), (4, .iload_n 1), (5, .aaload), (6, .iload_n 2), (7, .iload_n 3), (8, .iastore), (9, .aload_n 0), (10, .getfield 16), (13, .iload_n 1), (14, .aaload), (15, .iload_n 2), (16, .iload 4), (18, .iastore), (19, .return_)]
theorem okX3_tell : mi_tb (pP.2.2.2.1 kX3_tell).2.1 tbX3_tell := mi_tb.of (by decide +kernel)
theorem enX3_tell {X : mi_X} {d : Nat} {avs : List Value} {h : mi_H} {mc ms : Nat} {Q : Option Value → mi_H → Prop} (hn : (lg_sl avs).length ≤ (pP.2.2.2.1 kX3_tell).2.2.1) (body : mi_W pP X kX3_tell d mc ms 0 (lv_args 0 avs) [] h Q) : mi_S pP X kX3_tell d avs h mc ms Q := mi_S.of pP_ok rfl (by decide +kernel) hn body
def tbX3_tellerOf : List (Nat × Instr) := [(0, .iload_n 2), (1, .istore_n 3), (2, .iload_n 3), (3, .ifCond .lt 22), (6, .aload_n 0), (7, .getfield 16), (10, .iload_n 1), (11, .aaload), (12, .iload_n 3), (13, .iaload), (14, .ifCond .le 5), (17, .iload_n 3), (18, .ireturn), (19, .iinc 3 (-1)), (22, .goto (-20)), (25, .iconst (-1)), (26, .ireturn)]
theorem okX3_tellerOf : mi_tb (pP.2.2.2.1 kX3_tellerOf).2.1 tbX3_tellerOf := mi_tb.of (by decide +kernel)
theorem enX3_tellerOf {X : mi_X} {d : Nat} {avs : List Value} {h : mi_H} {mc ms : Nat} {Q : Option Value → mi_H → Prop} (hn : (lg_sl avs).length ≤ (pP.2.2.2.1 kX3_tellerOf).2.2.1) (body : mi_W pP X kX3_tellerOf d mc ms 0 (lv_args 0 avs) [] h Q) : mi_S pP X kX3_tellerOf d avs h mc ms Q := mi_S.of pP_ok rfl (by decide +kernel) hn body
def tbX3_firstOf : List (Nat × Instr) := [(0, .aload_n 0), (1, .getfield 11), (4, .iload_n 1), (5, .aaload), (6, .iload_n 2), (7, .iaload), (8, .ireturn)]
theorem okX3_firstOf : mi_tb (pP.2.2.2.1 kX3_firstOf).2.1 tbX3_firstOf := mi_tb.of (by decide +kernel)
theorem enX3_firstOf {X : mi_X} {d : Nat} {avs : List Value} {h : mi_H} {mc ms : Nat} {Q : Option Value → mi_H → Prop} (hn : (lg_sl avs).length ≤ (pP.2.2.2.1 kX3_firstOf).2.2.1) (body : mi_W pP X kX3_firstOf d mc ms 0 (lv_args 0 avs) [] h Q) : mi_S pP X kX3_firstOf d avs h mc ms Q := mi_S.of pP_ok rfl (by decide +kernel) hn body
def tbX3_lengthOf : List (Nat × Instr) := [(0, .aload_n 0), (1, .getfield 16), (4, .iload_n 1), (5, .aaload), (6, .iload_n 2), (7, .iaload), (8, .ireturn)]
theorem okX3_lengthOf : mi_tb (pP.2.2.2.1 kX3_lengthOf).2.1 tbX3_lengthOf := mi_tb.of (by decide +kernel)
theorem enX3_lengthOf {X : mi_X} {d : Nat} {avs : List Value} {h : mi_H} {mc ms : Nat} {Q : Option Value → mi_H → Prop} (hn : (lg_sl avs).length ≤ (pP.2.2.2.1 kX3_lengthOf).2.2.1) (body : mi_W pP X kX3_lengthOf d mc ms 0 (lv_args 0 avs) [] h Q) : mi_S pP X kX3_lengthOf d avs h mc ms Q := mi_S.of pP_ok rfl (by decide +kernel) hn body
def tbX4_init : List (Nat × Instr) := [(0, .aload_n 0), (1, .invokespecial 1), (4, .aload_n 0), (5, .iconst 1), (6, .putfield 7), (9, .aload_n 0), (10, .iconst 0), (11, .putfield 13), (14, .aload_n 0), (15, .iconst 0), (16, .putfield 16), (19, .aload_n 0), (20, .iconst 0), (21, .putfield 19), (24, .return_)]
theorem okX4_init : mi_tb (pP.2.2.2.1 kX4_init).2.1 tbX4_init := mi_tb.of (by decide +kernel)
theorem enX4_init {X : mi_X} {d : Nat} {avs : List Value} {h : mi_H} {mc ms : Nat} {Q : Option Value → mi_H → Prop} (hn : (lg_sl avs).length ≤ (pP.2.2.2.1 kX4_init).2.2.1) (body : mi_W pP X kX4_init d mc ms 0 (lv_args 0 avs) [] h Q) : mi_S pP X kX4_init d avs h mc ms Q := mi_S.of pP_ok rfl (by decide +kernel) hn body
def tbX4_mark : List (Nat × Instr) := [(0, .aload_n 0), (1, .iconst 1), (2, .putfield 7), (5, .aload_n 0), (6, .iconst 0), (7, .putfield 13), (10, .aload_n 0), (11, .iconst 0), (12, .putfield 16), (15, .aload_n 0), (16, .iconst 0), (17, .putfield 19), (20, .iconst 0), (21, .istore_n 2), (22, .iconst 0), (23, .istore_n 3), (24, .iload_n 3), (25, .bipush 16), (27, .if_icmp .ge 53), (30, .getstatic 24), (33, .aload_n 1), (34, .iload_n 3), (35, .invokevirtual 28), (38, .bipush 15), (40, .iand), (41, .iaload), (42, .istore 4), (44, .aload_n 0), (45, .aload_n 0), (46, .iload_n 2), (47, .iload 4), (49, .invokevirtual 32), (52, .ifCond .eq 12), (55, .sipush 128), (58, .iload 4), (60, .ior), (61, .goto 5), (64, .iload 4), (66, .invokevirtual 36), (69, .iload 4), (71, .iconst 1), (72, .iand), (73, .istore_n 2), (74, .iinc 3 1), (77, .goto (-53)), (80, .return_)]
theorem okX4_mark : mi_tb (pP.2.2.2.1 kX4_mark).2.1 tbX4_mark := mi_tb.of (by decide +kernel)
theorem enX4_mark {X : mi_X} {d : Nat} {avs : List Value} {h : mi_H} {mc ms : Nat} {Q : Option Value → mi_H → Prop} (hn : (lg_sl avs).length ≤ (pP.2.2.2.1 kX4_mark).2.2.1) (body : mi_W pP X kX4_mark d mc ms 0 (lv_args 0 avs) [] h Q) : mi_S pP X kX4_mark d avs h mc ms Q := mi_S.of pP_ok rfl (by decide +kernel) hn body
def tbX4_isJoined : List (Nat × Instr) := [(0, .iload_n 1), (1, .ifCond .ne 10), (4, .iload_n 2), (5, .bipush 64), (7, .iand), (8, .ifCond .eq 5), (11, .iconst 0), (12, .ireturn), (13, .aload_n 0), (14, .sipush 128), (17, .iload_n 2), (18, .ior), (19, .invokevirtual 40), (22, .invokestatic 43), (25, .aload_n 0), (26, .iload_n 2), (27, .invokevirtual 40), (30, .invokestatic 43), (33, .if_icmp .ge 7), (36, .iconst 1), (37, .goto 4), (40, .iconst 0), (41, .ireturn)]
theorem okX4_isJoined : mi_tb (pP.2.2.2.1 kX4_isJoined).2.1 tbX4_isJoined := mi_tb.of (by decide +kernel)
theorem enX4_isJoined {X : mi_X} {d : Nat} {avs : List Value} {h : mi_H} {mc ms : Nat} {Q : Option Value → mi_H → Prop} (hn : (lg_sl avs).length ≤ (pP.2.2.2.1 kX4_isJoined).2.2.1) (body : mi_W pP X kX4_isJoined d mc ms 0 (lv_args 0 avs) [] h Q) : mi_S pP X kX4_isJoined d avs h mc ms Q := mi_S.of pP_ok rfl (by decide +kernel) hn body
def tbX4_dsvBehind : List (Nat × Instr) := [(0, .aload_n 0), (1, .getfield 7), (4, .istore_n 2), (5, .aload_n 0), (6, .getfield 13), (9, .istore_n 3), (10, .sipush 128), (13, .istore 4), (15, .iload 4), (17, .ifCond .le 26), (20, .iload_n 1), (21, .iload 4), (23, .iand), (24, .ifCond .eq 6), (27, .iload_n 2), (28, .ineg), (29, .istore_n 2), (30, .iload_n 3), (31, .iload_n 2), (32, .iadd), (33, .istore_n 3), (34, .iload 4), (36, .iconst 1), (37, .ishr), (38, .istore 4), (40, .goto (-25)), (43, .iload_n 3), (44, .ireturn)]
theorem okX4_dsvBehind : mi_tb (pP.2.2.2.1 kX4_dsvBehind).2.1 tbX4_dsvBehind := mi_tb.of (by decide +kernel)
theorem enX4_dsvBehind {X : mi_X} {d : Nat} {avs : List Value} {h : mi_H} {mc ms : Nat} {Q : Option Value → mi_H → Prop} (hn : (lg_sl avs).length ≤ (pP.2.2.2.1 kX4_dsvBehind).2.2.1) (body : mi_W pP X kX4_dsvBehind d mc ms 0 (lv_args 0 avs) [] h Q) : mi_S pP X kX4_dsvBehind d avs h mc ms Q := mi_S.of pP_ok rfl (by decide +kernel) hn body
def tbX4_putBits : List (Nat × Instr) := [(0, .sipush 128), (3, .istore_n 2), (4, .iload_n 2), (5, .ifCond .le 66), (8, .iload_n 1), (9, .iload_n 2), (10, .iand), (11, .ifCond .eq 22), (14, .aload_n 0), (15, .aload_n 0), (16, .getfield 7), (19, .ineg), (20, .putfield 7), (23, .aload_n 0), (24, .dup), (25, .getfield 16), (28, .iconst 1), (29, .iadd), (30, .putfield 16), (33, .aload_n 0), (34, .dup), (35, .getfield 13), (38, .aload_n 0), (39, .getfield 7), (42, .iadd), (43, .putfield 13), (46, .aload_n 0), (47, .aload_n 0), (48, .getfield 19), (51, .aload_n 0), (52, .getfield 13), (55, .invokestatic 43), (58, .invokestatic 48), (61, .putfield 19), (64, .iload_n 2), (65, .iconst 1), (66, .ishr), (67, .istore_n 2), (68, .goto (-64)), (71, .return_)]
theorem okX4_putBits : mi_tb (pP.2.2.2.1 kX4_putBits).2.1 tbX4_putBits := mi_tb.of (by decide +kernel)
theorem enX4_putBits {X : mi_X} {d : Nat} {avs : List Value} {h : mi_H} {mc ms : Nat} {Q : Option Value → mi_H → Prop} (hn : (lg_sl avs).length ≤ (pP.2.2.2.1 kX4_putBits).2.2.1) (body : mi_W pP X kX4_putBits d mc ms 0 (lv_args 0 avs) [] h Q) : mi_S pP X kX4_putBits d avs h mc ms Q := mi_S.of pP_ok rfl (by decide +kernel) hn body
def tbX5_init : List (Nat × Instr) := [(0, .aload_n 0), (1, .invokespecial 3), (4, .aload_n 0), (5, .new 9), (8, .dup), (9, .invokespecial 11), (12, .putfield 12), (15, .aload_n 0), (16, .iconst 0), (17, .putfield 18), (20, .aload_n 0), (21, .iconst 0), (22, .putfield 22), (25, .aload_n 0), (26, .iconst 0), (27, .putfield 25), (30, .aload_n 0), (31, .iconst 2), (32, .putfield 29), (35, .aload_n 0), (36, .ldc2_w 32), (39, .putfield 34), (42, .aload_n 0), (43, .iconst 0), (44, .putfield 38), (47, .aload_n 0), (48, .iconst 0), (49, .putfield 41), (52, .aload_n 0), (53, .iconst 0), (54, .putfield 44), (57, .aload_n 0), (58, .iload_n 1), (59, .putfield 47), (62, .return_)]
theorem okX5_init : mi_tb (pP.2.2.2.1 kX5_init).2.1 tbX5_init := mi_tb.of (by decide +kernel)
theorem enX5_init {X : mi_X} {d : Nat} {avs : List Value} {h : mi_H} {mc ms : Nat} {Q : Option Value → mi_H → Prop} (hn : (lg_sl avs).length ≤ (pP.2.2.2.1 kX5_init).2.2.1) (body : mi_W pP X kX5_init d mc ms 0 (lv_args 0 avs) [] h Q) : mi_S pP X kX5_init d avs h mc ms Q := mi_S.of pP_ok rfl (by decide +kernel) hn body
def tbX5_fillWith : List (Nat × Instr) := [(0, .aload_n 0), (1, .iconst 1), (2, .putfield 18), (5, .aload_n 0), (6, .iload_n 3), (7, .putfield 22), (10, .aload_n 0), (11, .lload_n 1), (12, .invokestatic 50), (15, .putfield 25), (18, .aload_n 0), (19, .getfield 12), (22, .aload_n 0), (23, .lload_n 1), (24, .invokevirtual 54), (27, .invokevirtual 58), (30, .aload_n 0), (31, .aload 4), (33, .invokevirtual 62), (36, .return_)]
theorem okX5_fillWith : mi_tb (pP.2.2.2.1 kX5_fillWith).2.1 tbX5_fillWith := mi_tb.of (by decide +kernel)
theorem enX5_fillWith {X : mi_X} {d : Nat} {avs : List Value} {h : mi_H} {mc ms : Nat} {Q : Option Value → mi_H → Prop} (hn : (lg_sl avs).length ≤ (pP.2.2.2.1 kX5_fillWith).2.2.1) (body : mi_W pP X kX5_fillWith d mc ms 0 (lv_args 0 avs) [] h Q) : mi_S pP X kX5_fillWith d avs h mc ms Q := mi_S.of pP_ok rfl (by decide +kernel) hn body
def tbX5_eraseColumn : List (Nat × Instr) := [(0, .iconst 0), (1, .istore 4), (3, .iconst 0), (4, .istore 5), (6, .iload 5), (8, .iload_n 2), (9, .if_icmp .gt 22), (12, .iload 4), (14, .iconst 1), (15, .iconst 4), (16, .iload 5), (18, .imul), (19, .iload_n 1), (20, .iadd), (21, .ishl), (22, .ior), (23, .istore 4), (25, .iinc 5 1), (28, .goto (-22)), (31, .aload_n 0), (32, .getfield 12), (35, .iload 4), (37, .invokevirtual 66), (40, .aload_n 0), (41, .aload_n 3), (42, .invokevirtual 62), (45, .return_)]
theorem okX5_eraseColumn : mi_tb (pP.2.2.2.1 kX5_eraseColumn).2.1 tbX5_eraseColumn := mi_tb.of (by decide +kernel)
theorem enX5_eraseColumn {X : mi_X} {d : Nat} {avs : List Value} {h : mi_H} {mc ms : Nat} {Q : Option Value → mi_H → Prop} (hn : (lg_sl avs).length ≤ (pP.2.2.2.1 kX5_eraseColumn).2.2.1) (body : mi_W pP X kX5_eraseColumn d mc ms 0 (lv_args 0 avs) [] h Q) : mi_S pP X kX5_eraseColumn d avs h mc ms Q := mi_S.of pP_ok rfl (by decide +kernel) hn body
def tbX5_makeWrong : List (Nat × Instr) := [(0, .aload_n 0), (1, .getfield 12), (4, .iload_n 1), (5, .invokevirtual 70), (8, .ifCond .eq 5), (11, .iconst 0), (12, .ireturn), (13, .aload_n 0), (14, .getfield 12), (17, .iload_n 1), (18, .aload_n 0), (19, .getfield 12), (22, .iload_n 1), (23, .invokevirtual 74), (26, .iload_n 2), (27, .ixor), (28, .invokevirtual 78), (31, .aload_n 0), (32, .aload_n 3), (33, .invokevirtual 62), (36, .iconst 1), (37, .ireturn)]
theorem okX5_makeWrong : mi_tb (pP.2.2.2.1 kX5_makeWrong).2.1 tbX5_makeWrong := mi_tb.of (by decide +kernel)
theorem enX5_makeWrong {X : mi_X} {d : Nat} {avs : List Value} {h : mi_H} {mc ms : Nat} {Q : Option Value → mi_H → Prop} (hn : (lg_sl avs).length ≤ (pP.2.2.2.1 kX5_makeWrong).2.2.1) (body : mi_W pP X kX5_makeWrong d mc ms 0 (lv_args 0 avs) [] h Q) : mi_S pP X kX5_makeWrong d avs h mc ms Q := mi_S.of pP_ok rfl (by decide +kernel) hn body
def tbX5_raw : List (Nat × Instr) := [(0, .aload_n 0), (1, .getfield 18), (4, .ifCond .eq 17), (7, .aload_n 0), (8, .aload_n 0), (9, .getfield 12), (12, .invokevirtual 82), (15, .invokevirtual 54), (18, .goto 6), (21, .ldc2_w 32), (24, .lreturn)]
theorem okX5_raw : mi_tb (pP.2.2.2.1 kX5_raw).2.1 tbX5_raw := mi_tb.of (by decide +kernel)
theorem enX5_raw {X : mi_X} {d : Nat} {avs : List Value} {h : mi_H} {mc ms : Nat} {Q : Option Value → mi_H → Prop} (hn : (lg_sl avs).length ≤ (pP.2.2.2.1 kX5_raw).2.2.1) (body : mi_W pP X kX5_raw d mc ms 0 (lv_args 0 avs) [] h Q) : mi_S pP X kX5_raw d avs h mc ms Q := mi_S.of pP_ok rfl (by decide +kernel) hn body
def tbX5_sample : List (Nat × Instr) := [(0, .iconst 0), (1, .istore_n 1), (2, .iconst 0), (3, .istore_n 2), (4, .iload_n 2), (5, .bipush 9), (7, .if_icmp .ge 20), (10, .iload_n 1), (11, .aload_n 0), (12, .getfield 34), (15, .iload_n 2), (16, .invokestatic 86), (19, .iadd), (20, .istore_n 1), (21, .iinc 2 1), (24, .goto (-20)), (27, .iload_n 1), (28, .bipush 67), (30, .isub), (31, .i2f), (32, .fconst 2), (33, .fdiv), (34, .freturn)]
theorem okX5_sample : mi_tb (pP.2.2.2.1 kX5_sample).2.1 tbX5_sample := mi_tb.of (by decide +kernel)
theorem enX5_sample {X : mi_X} {d : Nat} {avs : List Value} {h : mi_H} {mc ms : Nat} {Q : Option Value → mi_H → Prop} (hn : (lg_sl avs).length ≤ (pP.2.2.2.1 kX5_sample).2.2.1) (body : mi_W pP X kX5_sample d mc ms 0 (lv_args 0 avs) [] h Q) : mi_S pP X kX5_sample d avs h mc ms Q := mi_S.of pP_ok rfl (by decide +kernel) hn body
def tbX5_stateWithout : List (Nat × Instr) := [(0, .aload_n 2), (1, .aload_n 0), (2, .getfield 12), (5, .invokevirtual 90), (8, .aload_n 2), (9, .iload_n 1), (10, .invokevirtual 66), (13, .aload_n 2), (14, .invokevirtual 94), (17, .aload_n 0), (18, .aload_n 2), (19, .invokevirtual 97), (22, .ireturn)]
theorem okX5_stateWithout : mi_tb (pP.2.2.2.1 kX5_stateWithout).2.1 tbX5_stateWithout := mi_tb.of (by decide +kernel)
theorem enX5_stateWithout {X : mi_X} {d : Nat} {avs : List Value} {h : mi_H} {mc ms : Nat} {Q : Option Value → mi_H → Prop} (hn : (lg_sl avs).length ≤ (pP.2.2.2.1 kX5_stateWithout).2.2.1) (body : mi_W pP X kX5_stateWithout d mc ms 0 (lv_args 0 avs) [] h Q) : mi_S pP X kX5_stateWithout d avs h mc ms Q := mi_S.of pP_ok rfl (by decide +kernel) hn body
def tbX5_reckon : List (Nat × Instr) := [(0, .aload_n 1), (1, .getfield 101), (4, .aload_n 0), (5, .getfield 12), (8, .invokevirtual 90), (11, .aload_n 1), (12, .getfield 101), (15, .invokevirtual 94), (18, .aload_n 0), (19, .aload_n 0), (20, .aload_n 1), (21, .getfield 101), (24, .invokevirtual 97), (27, .putfield 29), (30, .aload_n 0), (31, .aload_n 0), (32, .getfield 29), (35, .iconst 2), (36, .if_icmp .ne 9), (39, .ldc2_w 32), (42, .goto 14), (45, .aload_n 0), (46, .aload_n 1), (47, .getfield 101), (50, .invokevirtual 82), (53, .invokevirtual 54), (56, .putfield 34), (59, .aload_n 1), (60, .getfield 106), (63, .aload_n 0), (64, .getfield 12), (67, .invokevirtual 110), (70, .aload_n 0), (71, .aload_n 1), (72, .getfield 106), (75, .getfield 115), (78, .putfield 38), (81, .aload_n 0), (82, .aload_n 1), (83, .getfield 106), (86, .getfield 116), (89, .putfield 41), (92, .aload_n 0), (93, .aload_n 1), (94, .getfield 106), (97, .getfield 117), (100, .putfield 44), (103, .return_)]
theorem okX5_reckon : mi_tb (pP.2.2.2.1 kX5_reckon).2.1 tbX5_reckon := mi_tb.of (by decide +kernel)
theorem enX5_reckon {X : mi_X} {d : Nat} {avs : List Value} {h : mi_H} {mc ms : Nat} {Q : Option Value → mi_H → Prop} (hn : (lg_sl avs).length ≤ (pP.2.2.2.1 kX5_reckon).2.2.1) (body : mi_W pP X kX5_reckon d mc ms 0 (lv_args 0 avs) [] h Q) : mi_S pP X kX5_reckon d avs h mc ms Q := mi_S.of pP_ok rfl (by decide +kernel) hn body
def tbX5_judged : List (Nat × Instr) := [(0, .aload_n 0), (1, .getfield 18), (4, .ifCond .eq 10), (7, .aload_n 1), (8, .getfield 118), (11, .ifCond .eq 5), (14, .iconst 2), (15, .ireturn), (16, .aload_n 0), (17, .getfield 22), (20, .ifCond .eq 21), (23, .aload_n 0), (24, .aload_n 1), (25, .invokevirtual 82), (28, .invokevirtual 54), (31, .invokestatic 50), (34, .aload_n 0), (35, .getfield 25), (38, .if_icmp .ne 7), (41, .iconst 1), (42, .goto 4), (45, .iconst 0), (46, .istore_n 2), (47, .iload_n 2), (48, .ifCond .eq 14), (51, .aload_n 1), (52, .invokevirtual 121), (55, .ifCond .eq 7), (58, .iconst 0), (59, .goto 4), (62, .iconst 1), (63, .ireturn)]
theorem okX5_judged : mi_tb (pP.2.2.2.1 kX5_judged).2.1 tbX5_judged := mi_tb.of (by decide +kernel)
theorem enX5_judged {X : mi_X} {d : Nat} {avs : List Value} {h : mi_H} {mc ms : Nat} {Q : Option Value → mi_H → Prop} (hn : (lg_sl avs).length ≤ (pP.2.2.2.1 kX5_judged).2.2.1) (body : mi_W pP X kX5_judged d mc ms 0 (lv_args 0 avs) [] h Q) : mi_S pP X kX5_judged d avs h mc ms Q := mi_S.of pP_ok rfl (by decide +kernel) hn body
def tbX5_mixed : List (Nat × Instr) := [(0, .lconst 0), (1, .lstore_n 3), (2, .bipush 7), (4, .aload_n 0), (5, .getfield 47), (8, .imul), (9, .iconst 3), (10, .iadd), (11, .bipush 16), (13, .irem), (14, .istore 5), (16, .iconst 0), (17, .istore 6), (19, .iload 6), (21, .bipush 9), (23, .if_icmp .ge 31), (26, .lload_n 3), (27, .iload 5), (29, .i2l), (30, .iconst 4), (31, .iload 6), (33, .imul), (34, .lshl), (35, .lor), (36, .lstore_n 3), (37, .iconst 5), (38, .iload 5), (40, .imul), (41, .iconst 3), (42, .iadd), (43, .bipush 16), (45, .irem), (46, .istore 5), (48, .iinc 6 1), (51, .goto (-32)), (54, .lload_n 1), (55, .lload_n 3), (56, .lxor), (57, .lreturn)]
theorem okX5_mixed : mi_tb (pP.2.2.2.1 kX5_mixed).2.1 tbX5_mixed := mi_tb.of (by decide +kernel)
theorem enX5_mixed {X : mi_X} {d : Nat} {avs : List Value} {h : mi_H} {mc ms : Nat} {Q : Option Value → mi_H → Prop} (hn : (lg_sl avs).length ≤ (pP.2.2.2.1 kX5_mixed).2.2.1) (body : mi_W pP X kX5_mixed d mc ms 0 (lv_args 0 avs) [] h Q) : mi_S pP X kX5_mixed d avs h mc ms Q := mi_S.of pP_ok rfl (by decide +kernel) hn body
def tbX5_sumOf : List (Nat × Instr) := [(0, .iconst 0), (1, .istore_n 2), (2, .iconst 0), (3, .istore_n 3), (4, .iload_n 3), (5, .bipush 9), (7, .if_icmp .ge 21), (10, .iload_n 2), (11, .iload_n 3), (12, .iconst 1), (13, .iadd), (14, .lload_n 0), (15, .iload_n 3), (16, .invokestatic 86), (19, .imul), (20, .iadd), (21, .istore_n 2), (22, .iinc 3 1), (25, .goto (-21)), (28, .iload_n 2), (29, .sipush 251), (32, .irem), (33, .ireturn)]
theorem okX5_sumOf : mi_tb (pP.2.2.2.1 kX5_sumOf).2.1 tbX5_sumOf := mi_tb.of (by decide +kernel)
theorem enX5_sumOf {X : mi_X} {d : Nat} {avs : List Value} {h : mi_H} {mc ms : Nat} {Q : Option Value → mi_H → Prop} (hn : (lg_sl avs).length ≤ (pP.2.2.2.1 kX5_sumOf).2.2.1) (body : mi_W pP X kX5_sumOf d mc ms 0 (lv_args 0 avs) [] h Q) : mi_S pP X kX5_sumOf d avs h mc ms Q := mi_S.of pP_ok rfl (by decide +kernel) hn body
def tbX5_nibbleOf : List (Nat × Instr) := [(0, .lload_n 0), (1, .iconst 4), (2, .iload_n 2), (3, .imul), (4, .lushr), (5, .l2i), (6, .bipush 15), (8, .iand), (9, .ireturn)]
theorem okX5_nibbleOf : mi_tb (pP.2.2.2.1 kX5_nibbleOf).2.1 tbX5_nibbleOf := mi_tb.of (by decide +kernel)
theorem enX5_nibbleOf {X : mi_X} {d : Nat} {avs : List Value} {h : mi_H} {mc ms : Nat} {Q : Option Value → mi_H → Prop} (hn : (lg_sl avs).length ≤ (pP.2.2.2.1 kX5_nibbleOf).2.2.1) (body : mi_W pP X kX5_nibbleOf d mc ms 0 (lv_args 0 avs) [] h Q) : mi_S pP X kX5_nibbleOf d avs h mc ms Q := mi_S.of pP_ok rfl (by decide +kernel) hn body
def tbX6_zoneOf : List (Nat × Instr) := [(0, .iload_n 0), (1, .getstatic 7), (4, .iconst 1), (5, .iaload), (6, .if_icmp .ge 5), (9, .iconst 0), (10, .ireturn), (11, .iload_n 0), (12, .getstatic 7), (15, .iconst 2), (16, .iaload), (17, .if_icmp .ge 7), (20, .iconst 1), (21, .goto 4), (24, .iconst 2), (25, .ireturn)]
theorem okX6_zoneOf : mi_tb (pP.2.2.2.1 kX6_zoneOf).2.1 tbX6_zoneOf := mi_tb.of (by decide +kernel)
theorem enX6_zoneOf {X : mi_X} {d : Nat} {avs : List Value} {h : mi_H} {mc ms : Nat} {Q : Option Value → mi_H → Prop} (hn : (lg_sl avs).length ≤ (pP.2.2.2.1 kX6_zoneOf).2.2.1) (body : mi_W pP X kX6_zoneOf d mc ms 0 (lv_args 0 avs) [] h Q) : mi_S pP X kX6_zoneOf d avs h mc ms Q := mi_S.of pP_ok rfl (by decide +kernel) hn body
def tbX6_turnOf : List (Nat × Instr) := [(0, .iload_n 0), (1, .invokestatic 13), (4, .istore_n 1), (5, .iload_n 1), (6, .bipush 10), (8, .imul), (9, .iload_n 0), (10, .getstatic 7), (13, .iload_n 1), (14, .iaload), (15, .isub), (16, .getstatic 17), (19, .iload_n 1), (20, .iaload), (21, .idiv), (22, .iadd), (23, .ireturn)]
theorem okX6_turnOf : mi_tb (pP.2.2.2.1 kX6_turnOf).2.1 tbX6_turnOf := mi_tb.of (by decide +kernel)
theorem enX6_turnOf {X : mi_X} {d : Nat} {avs : List Value} {h : mi_H} {mc ms : Nat} {Q : Option Value → mi_H → Prop} (hn : (lg_sl avs).length ≤ (pP.2.2.2.1 kX6_turnOf).2.2.1) (body : mi_W pP X kX6_turnOf d mc ms 0 (lv_args 0 avs) [] h Q) : mi_S pP X kX6_turnOf d avs h mc ms Q := mi_S.of pP_ok rfl (by decide +kernel) hn body
def tbX6_angleOf : List (Nat × Instr) := [(0, .iload_n 0), (1, .invokestatic 13), (4, .istore_n 1), (5, .iload_n 0), (6, .getstatic 7), (9, .iload_n 1), (10, .iaload), (11, .isub), (12, .getstatic 17), (15, .iload_n 1), (16, .iaload), (17, .irem), (18, .istore_n 2), (19, .iload_n 2), (20, .i2d), (21, .ldc2_w 20), (24, .dmul), (25, .getstatic 17), (28, .iload_n 1), (29, .iaload), (30, .i2d), (31, .ddiv), (32, .dreturn)]
theorem okX6_angleOf : mi_tb (pP.2.2.2.1 kX6_angleOf).2.1 tbX6_angleOf := mi_tb.of (by decide +kernel)
theorem enX6_angleOf {X : mi_X} {d : Nat} {avs : List Value} {h : mi_H} {mc ms : Nat} {Q : Option Value → mi_H → Prop} (hn : (lg_sl avs).length ≤ (pP.2.2.2.1 kX6_angleOf).2.2.1) (body : mi_W pP X kX6_angleOf d mc ms 0 (lv_args 0 avs) [] h Q) : mi_S pP X kX6_angleOf d avs h mc ms Q := mi_S.of pP_ok rfl (by decide +kernel) hn body
def tbX6_speedOf : List (Nat × Instr) := [(0, .iload_n 0), (1, .invokestatic 13), (4, .istore_n 1), (5, .iload_n 1), (6, .ifCond .ne 5), (9, .fconst 1), (10, .freturn), (11, .iload_n 1), (12, .iconst 1), (13, .if_icmp .ne 8), (16, .ldc 22), (18, .goto 5), (21, .ldc 23), (23, .freturn)]
theorem okX6_speedOf : mi_tb (pP.2.2.2.1 kX6_speedOf).2.1 tbX6_speedOf := mi_tb.of (by decide +kernel)
theorem enX6_speedOf {X : mi_X} {d : Nat} {avs : List Value} {h : mi_H} {mc ms : Nat} {Q : Option Value → mi_H → Prop} (hn : (lg_sl avs).length ≤ (pP.2.2.2.1 kX6_speedOf).2.2.1) (body : mi_W pP X kX6_speedOf d mc ms 0 (lv_args 0 avs) [] h Q) : mi_S pP X kX6_speedOf d avs h mc ms Q := mi_S.of pP_ok rfl (by decide +kernel) hn body
def tbX6_positionOf : List (Nat × Instr) := [(0, .iload_n 0), (1, .bipush 60), (3, .idiv), (4, .iconst 3), (5, .irem), (6, .istore_n 1), (7, .iload_n 0), (8, .iconst 5), (9, .idiv), (10, .bipush 12), (12, .irem), (13, .istore_n 2), (14, .sipush 1000), (17, .iload_n 1), (18, .imul), (19, .bipush 10), (21, .iload_n 2), (22, .imul), (23, .iadd), (24, .iload_n 0), (25, .iconst 5), (26, .irem), (27, .iadd), (28, .ireturn)]
theorem okX6_positionOf : mi_tb (pP.2.2.2.1 kX6_positionOf).2.1 tbX6_positionOf := mi_tb.of (by decide +kernel)
theorem enX6_positionOf {X : mi_X} {d : Nat} {avs : List Value} {h : mi_H} {mc ms : Nat} {Q : Option Value → mi_H → Prop} (hn : (lg_sl avs).length ≤ (pP.2.2.2.1 kX6_positionOf).2.2.1) (body : mi_W pP X kX6_positionOf d mc ms 0 (lv_args 0 avs) [] h Q) : mi_S pP X kX6_positionOf d avs h mc ms Q := mi_S.of pP_ok rfl (by decide +kernel) hn body
def tbX7_init : List (Nat × Instr) := [(0, .aload_n 0), (1, .invokespecial 3), (4, .aload_n 0), (5, .iconst 0), (6, .putfield 9), (9, .aload_n 0), (10, .iconst 0), (11, .putfield 15), (14, .aload_n 0), (15, .iconst 0), (16, .putfield 18), (19, .aload_n 0), (20, .iconst 0), (21, .putfield 21), (24, .aload_n 0), (25, .iconst 0), (26, .putfield 24), (29, .aload_n 0), (30, .iconst 0), (31, .putfield 27), (34, .aload_n 0), (35, .iconst 0), (36, .putfield 30), (39, .return_)]
theorem okX7_init : mi_tb (pP.2.2.2.1 kX7_init).2.1 tbX7_init := mi_tb.of (by decide +kernel)
theorem enX7_init {X : mi_X} {d : Nat} {avs : List Value} {h : mi_H} {mc ms : Nat} {Q : Option Value → mi_H → Prop} (hn : (lg_sl avs).length ≤ (pP.2.2.2.1 kX7_init).2.2.1) (body : mi_W pP X kX7_init d mc ms 0 (lv_args 0 avs) [] h Q) : mi_S pP X kX7_init d avs h mc ms Q := mi_S.of pP_ok rfl (by decide +kernel) hn body
def tbX7_reserve : List (Nat × Instr) := [(0, .aload_n 0), (1, .iload_n 1), (2, .putfield 9), (5, .aload_n 0), (6, .iload_n 2), (7, .putfield 15), (10, .aload_n 0), (11, .iload_n 3), (12, .putfield 18), (15, .aload_n 0), (16, .iload 4), (18, .putfield 21), (21, .return_)]
theorem okX7_reserve : mi_tb (pP.2.2.2.1 kX7_reserve).2.1 tbX7_reserve := mi_tb.of (by decide +kernel)
theorem enX7_reserve {X : mi_X} {d : Nat} {avs : List Value} {h : mi_H} {mc ms : Nat} {Q : Option Value → mi_H → Prop} (hn : (lg_sl avs).length ≤ (pP.2.2.2.1 kX7_reserve).2.2.1) (body : mi_W pP X kX7_reserve d mc ms 0 (lv_args 0 avs) [] h Q) : mi_S pP X kX7_reserve d avs h mc ms Q := mi_S.of pP_ok rfl (by decide +kernel) hn body
def tbX7_behind : List (Nat × Instr) := [(0, .aload_n 0), (1, .getfield 18), (4, .aload_n 0), (5, .getfield 21), (8, .iadd), (9, .ireturn)]
theorem okX7_behind : mi_tb (pP.2.2.2.1 kX7_behind).2.1 tbX7_behind := mi_tb.of (by decide +kernel)
theorem enX7_behind {X : mi_X} {d : Nat} {avs : List Value} {h : mi_H} {mc ms : Nat} {Q : Option Value → mi_H → Prop} (hn : (lg_sl avs).length ≤ (pP.2.2.2.1 kX7_behind).2.2.1) (body : mi_W pP X kX7_behind d mc ms 0 (lv_args 0 avs) [] h Q) : mi_S pP X kX7_behind d avs h mc ms Q := mi_S.of pP_ok rfl (by decide +kernel) hn body
def tbX7_holds : List (Nat × Instr) := [(0, .iload_n 1), (1, .aload_n 0), (2, .getfield 18), (5, .if_icmp .lt 15), (8, .iload_n 1), (9, .aload_n 0), (10, .invokevirtual 34), (13, .if_icmp .ge 7), (16, .iconst 1), (17, .goto 4), (20, .iconst 0), (21, .ireturn)]
theorem okX7_holds : mi_tb (pP.2.2.2.1 kX7_holds).2.1 tbX7_holds := mi_tb.of (by decide +kernel)
theorem enX7_holds {X : mi_X} {d : Nat} {avs : List Value} {h : mi_H} {mc ms : Nat} {Q : Option Value → mi_H → Prop} (hn : (lg_sl avs).length ≤ (pP.2.2.2.1 kX7_holds).2.2.1) (body : mi_W pP X kX7_holds d mc ms 0 (lv_args 0 avs) [] h Q) : mi_S pP X kX7_holds d avs h mc ms Q := mi_S.of pP_ok rfl (by decide +kernel) hn body
def tbX7_hasRoom : List (Nat × Instr) := [(0, .aload_n 0), (1, .getfield 30), (4, .ifCond .ne 18), (7, .aload_n 0), (8, .getfield 24), (11, .aload_n 0), (12, .getfield 21), (15, .if_icmp .ge 7), (18, .iconst 1), (19, .goto 4), (22, .iconst 0), (23, .ireturn)]
theorem okX7_hasRoom : mi_tb (pP.2.2.2.1 kX7_hasRoom).2.1 tbX7_hasRoom := mi_tb.of (by decide +kernel)
theorem enX7_hasRoom {X : mi_X} {d : Nat} {avs : List Value} {h : mi_H} {mc ms : Nat} {Q : Option Value → mi_H → Prop} (hn : (lg_sl avs).length ≤ (pP.2.2.2.1 kX7_hasRoom).2.2.1) (body : mi_W pP X kX7_hasRoom d mc ms 0 (lv_args 0 avs) [] h Q) : mi_S pP X kX7_hasRoom d avs h mc ms Q := mi_S.of pP_ok rfl (by decide +kernel) hn body
def tbX7_takeNext : List (Nat × Instr) := [(0, .aload_n 0), (1, .dup), (2, .getfield 24), (5, .iconst 1), (6, .iadd), (7, .putfield 24), (10, .aload_n 0), (11, .getfield 18), (14, .aload_n 0), (15, .getfield 24), (18, .iadd), (19, .iconst 1), (20, .isub), (21, .ireturn)]
theorem okX7_takeNext : mi_tb (pP.2.2.2.1 kX7_takeNext).2.1 tbX7_takeNext := mi_tb.of (by decide +kernel)
theorem enX7_takeNext {X : mi_X} {d : Nat} {avs : List Value} {h : mi_H} {mc ms : Nat} {Q : Option Value → mi_H → Prop} (hn : (lg_sl avs).length ≤ (pP.2.2.2.1 kX7_takeNext).2.2.1) (body : mi_W pP X kX7_takeNext d mc ms 0 (lv_args 0 avs) [] h Q) : mi_S pP X kX7_takeNext d avs h mc ms Q := mi_S.of pP_ok rfl (by decide +kernel) hn body
def tbX7_giveBack : List (Nat × Instr) := [(0, .aload_n 0), (1, .getfield 21), (4, .aload_n 0), (5, .getfield 24), (8, .isub), (9, .istore_n 1), (10, .aload_n 0), (11, .aload_n 0), (12, .getfield 24), (15, .putfield 21), (18, .iload_n 1), (19, .ireturn)]
theorem okX7_giveBack : mi_tb (pP.2.2.2.1 kX7_giveBack).2.1 tbX7_giveBack := mi_tb.of (by decide +kernel)
theorem enX7_giveBack {X : mi_X} {d : Nat} {avs : List Value} {h : mi_H} {mc ms : Nat} {Q : Option Value → mi_H → Prop} (hn : (lg_sl avs).length ≤ (pP.2.2.2.1 kX7_giveBack).2.2.1) (body : mi_W pP X kX7_giveBack d mc ms 0 (lv_args 0 avs) [] h Q) : mi_S pP X kX7_giveBack d avs h mc ms Q := mi_S.of pP_ok rfl (by decide +kernel) hn body
def tbX9_init : List (Nat × Instr) := [(0, .aload_n 0), (1, .invokespecial 1), (4, .aload_n 0), (5, .sipush 240), (8, .anewarray 9), (11, .putfield 11), (14, .aload_n 0), (15, .sipush 240), (18, .newarray .int), (20, .putfield 15), (23, .aload_n 0), (24, .new 18), (27, .dup), (28, .invokespecial 20), (31, .putfield 21), (34, .aload_n 0), (35, .sipush 240), (38, .newarray .int), (40, .putfield 25), (43, .aload_n 0), (44, .iconst 4), (45, .putfield 28), (48, .aload_n 0), (49, .new 18), (52, .dup), (53, .invokespecial 20), (56, .putfield 32), (59, .iconst 0), (60, .istore_n 1), (61, .iload_n 1), (62, .sipush 240), (65, .if_icmp .ge 16), (68, .aload_n 0), (69, .getfield 25), (72, .iload_n 1), (73, .iconst (-1)), (74, .iastore), (75, .iinc 1 1), (78, .goto (-17)), (81, .return_)]
theorem okX9_init : mi_tb (pP.2.2.2.1 kX9_init).2.1 tbX9_init := mi_tb.of (by decide +kernel)
theorem enX9_init {X : mi_X} {d : Nat} {avs : List Value} {h : mi_H} {mc ms : Nat} {Q : Option Value → mi_H → Prop} (hn : (lg_sl avs).length ≤ (pP.2.2.2.1 kX9_init).2.2.1) (body : mi_W pP X kX9_init d mc ms 0 (lv_args 0 avs) [] h Q) : mi_S pP X kX9_init d avs h mc ms Q := mi_S.of pP_ok rfl (by decide +kernel) hn body
def tbX9_thrown : List (Nat × Instr) := [(0, .aload_n 0), (1, .getfield 35), (4, .ireturn)]
theorem okX9_thrown : mi_tb (pP.2.2.2.1 kX9_thrown).2.1 tbX9_thrown := mi_tb.of (by decide +kernel)
theorem enX9_thrown {X : mi_X} {d : Nat} {avs : List Value} {h : mi_H} {mc ms : Nat} {Q : Option Value → mi_H → Prop} (hn : (lg_sl avs).length ≤ (pP.2.2.2.1 kX9_thrown).2.2.1) (body : mi_W pP X kX9_thrown d mc ms 0 (lv_args 0 avs) [] h Q) : mi_S pP X kX9_thrown d avs h mc ms Q := mi_S.of pP_ok rfl (by decide +kernel) hn body
def tbX9_refuse : List (Nat × Instr) := [(0, .iload_n 1), (1, .ifCond .eq 15), (4, .aload_n 0), (5, .getfield 35), (8, .ifCond .ne 8), (11, .aload_n 0), (12, .iload_n 2), (13, .putfield 35), (16, .aload_n 0), (17, .getfield 35), (20, .ifCond .le 7), (23, .iconst 1), (24, .goto 4), (27, .iconst 0), (28, .ireturn)]
theorem okX9_refuse : mi_tb (pP.2.2.2.1 kX9_refuse).2.1 tbX9_refuse := mi_tb.of (by decide +kernel)
theorem enX9_refuse {X : mi_X} {d : Nat} {avs : List Value} {h : mi_H} {mc ms : Nat} {Q : Option Value → mi_H → Prop} (hn : (lg_sl avs).length ≤ (pP.2.2.2.1 kX9_refuse).2.2.1) (body : mi_W pP X kX9_refuse d mc ms 0 (lv_args 0 avs) [] h Q) : mi_S pP X kX9_refuse d avs h mc ms Q := mi_S.of pP_ok rfl (by decide +kernel) hn body
def tbX9_start : List (Nat × Instr) := [(0, .aload_n 0), (1, .iconst 0), (2, .putfield 35), (5, .aload_n 0), (6, .iload_n 1), (7, .iload_n 2), (8, .invokevirtual 38), (11, .ireturn)]
theorem okX9_start : mi_tb (pP.2.2.2.1 kX9_start).2.1 tbX9_start := mi_tb.of (by decide +kernel)
theorem enX9_start {X : mi_X} {d : Nat} {avs : List Value} {h : mi_H} {mc ms : Nat} {Q : Option Value → mi_H → Prop} (hn : (lg_sl avs).length ≤ (pP.2.2.2.1 kX9_start).2.2.1) (body : mi_W pP X kX9_start d mc ms 0 (lv_args 0 avs) [] h Q) : mi_S pP X kX9_start d avs h mc ms Q := mi_S.of pP_ok rfl (by decide +kernel) hn body
def tbX9_isIn : List (Nat × Instr) := [(0, .iload_n 0), (1, .iload_n 1), (2, .if_icmp .lt 12), (5, .iload_n 0), (6, .iload_n 2), (7, .if_icmp .gt 7), (10, .iconst 1), (11, .goto 4), (14, .iconst 0), (15, .ireturn)]
theorem okX9_isIn : mi_tb (pP.2.2.2.1 kX9_isIn).2.1 tbX9_isIn := mi_tb.of (by decide +kernel)
theorem enX9_isIn {X : mi_X} {d : Nat} {avs : List Value} {h : mi_H} {mc ms : Nat} {Q : Option Value → mi_H → Prop} (hn : (lg_sl avs).length ≤ (pP.2.2.2.1 kX9_isIn).2.2.1) (body : mi_W pP X kX9_isIn d mc ms 0 (lv_args 0 avs) [] h Q) : mi_S pP X kX9_isIn d avs h mc ms Q := mi_S.of pP_ok rfl (by decide +kernel) hn body
def tbX9_one : List (Nat × Instr) := [(0, .iload_n 0), (1, .ifCond .eq 7), (4, .iconst 1), (5, .goto 4), (8, .iconst 0), (9, .ireturn)]
theorem okX9_one : mi_tb (pP.2.2.2.1 kX9_one).2.1 tbX9_one := mi_tb.of (by decide +kernel)
theorem enX9_one {X : mi_X} {d : Nat} {avs : List Value} {h : mi_H} {mc ms : Nat} {Q : Option Value → mi_H → Prop} (hn : (lg_sl avs).length ≤ (pP.2.2.2.1 kX9_one).2.2.1) (body : mi_W pP X kX9_one d mc ms 0 (lv_args 0 avs) [] h Q) : mi_S pP X kX9_one d avs h mc ms Q := mi_S.of pP_ok rfl (by decide +kernel) hn body
def tbX9_isNoTrack : List (Nat × Instr) := [(0, .iload_n 1), (1, .iconst 0), (2, .aload_n 0), (3, .getfield 21), (6, .invokevirtual 42), (9, .iconst 1), (10, .isub), (11, .invokestatic 46), (14, .ifCond .ne 7), (17, .iconst 1), (18, .goto 4), (21, .iconst 0), (22, .ireturn)]
theorem okX9_isNoTrack : mi_tb (pP.2.2.2.1 kX9_isNoTrack).2.1 tbX9_isNoTrack := mi_tb.of (by decide +kernel)
theorem enX9_isNoTrack {X : mi_X} {d : Nat} {avs : List Value} {h : mi_H} {mc ms : Nat} {Q : Option Value → mi_H → Prop} (hn : (lg_sl avs).length ≤ (pP.2.2.2.1 kX9_isNoTrack).2.2.1) (body : mi_W pP X kX9_isNoTrack d mc ms 0 (lv_args 0 avs) [] h Q) : mi_S pP X kX9_isNoTrack d avs h mc ms Q := mi_S.of pP_ok rfl (by decide +kernel) hn body
def tbX9_isNoSector : List (Nat × Instr) := [(0, .iload_n 0), (1, .iconst 0), (2, .sipush 239), (5, .invokestatic 46), (8, .ifCond .ne 7), (11, .iconst 1), (12, .goto 4), (15, .iconst 0), (16, .ireturn)]
theorem okX9_isNoSector : mi_tb (pP.2.2.2.1 kX9_isNoSector).2.1 tbX9_isNoSector := mi_tb.of (by decide +kernel)
theorem enX9_isNoSector {X : mi_X} {d : Nat} {avs : List Value} {h : mi_H} {mc ms : Nat} {Q : Option Value → mi_H → Prop} (hn : (lg_sl avs).length ≤ (pP.2.2.2.1 kX9_isNoSector).2.2.1) (body : mi_W pP X kX9_isNoSector d mc ms 0 (lv_args 0 avs) [] h Q) : mi_S pP X kX9_isNoSector d avs h mc ms Q := mi_S.of pP_ok rfl (by decide +kernel) hn body
def tbX9_mask : List (Nat × Instr) := [(0, .bipush 7), (2, .iload_n 0), (3, .imul), (4, .iconst 3), (5, .iadd), (6, .bipush 16), (8, .irem), (9, .istore_n 2), (10, .iconst 0), (11, .istore_n 3), (12, .iload_n 3), (13, .iload_n 1), (14, .if_icmp .ge 18), (17, .iconst 5), (18, .iload_n 2), (19, .imul), (20, .iconst 3), (21, .iadd), (22, .bipush 16), (24, .irem), (25, .istore_n 2), (26, .iinc 3 1), (29, .goto (-17)), (32, .iload_n 2), (33, .ireturn)]
theorem okX9_mask : mi_tb (pP.2.2.2.1 kX9_mask).2.1 tbX9_mask := mi_tb.of (by decide +kernel)
theorem enX9_mask {X : mi_X} {d : Nat} {avs : List Value} {h : mi_H} {mc ms : Nat} {Q : Option Value → mi_H → Prop} (hn : (lg_sl avs).length ≤ (pP.2.2.2.1 kX9_mask).2.2.1) (body : mi_W pP X kX9_mask d mc ms 0 (lv_args 0 avs) [] h Q) : mi_S pP X kX9_mask d avs h mc ms Q := mi_S.of pP_ok rfl (by decide +kernel) hn body
def tbX9_placeOf : List (Nat × Instr) := [(0, .iconst 4), (1, .iload_n 0), (2, .iconst 3), (3, .idiv), (4, .imul), (5, .iload_n 0), (6, .iconst 3), (7, .irem), (8, .iadd), (9, .ireturn)]
theorem okX9_placeOf : mi_tb (pP.2.2.2.1 kX9_placeOf).2.1 tbX9_placeOf := mi_tb.of (by decide +kernel)
theorem enX9_placeOf {X : mi_X} {d : Nat} {avs : List Value} {h : mi_H} {mc ms : Nat} {Q : Option Value → mi_H → Prop} (hn : (lg_sl avs).length ≤ (pP.2.2.2.1 kX9_placeOf).2.2.1) (body : mi_W pP X kX9_placeOf d mc ms 0 (lv_args 0 avs) [] h Q) : mi_S pP X kX9_placeOf d avs h mc ms Q := mi_S.of pP_ok rfl (by decide +kernel) hn body
def tbX9_blockOf : List (Nat × Instr) := [(0, .bipush 16), (2, .newarray .int), (4, .astore_n 3), (5, .iconst 0), (6, .istore 4), (8, .iload 4), (10, .bipush 9), (12, .if_icmp .ge 34), (15, .aload_n 3), (16, .iload 4), (18, .invokestatic 50), (21, .lload_n 1), (22, .iconst 4), (23, .iload 4), (25, .imul), (26, .lshr), (27, .ldc2_w 54), (30, .land), (31, .l2i), (32, .iload_n 0), (33, .iload 4), (35, .invokestatic 56), (38, .ixor), (39, .iastore), (40, .iinc 4 1), (43, .goto (-35)), (46, .iconst 0), (47, .istore 4), (49, .iload 4), (51, .iconst 3), (52, .if_icmp .ge 41), (55, .aload_n 3), (56, .iconst 4), (57, .iload 4), (59, .imul), (60, .iconst 3), (61, .iadd), (62, .aload_n 3), (63, .iconst 4), (64, .iload 4), (66, .imul), (67, .iaload), (68, .aload_n 3), (69, .iconst 4), (70, .iload 4), (72, .imul), (73, .iconst 1), (74, .iadd), (75, .iaload), (76, .ixor), (77, .aload_n 3), (78, .iconst 4), (79, .iload 4), (81, .imul), (82, .iconst 2), (83, .iadd), (84, .iaload), (85, .ixor), (86, .iastore), (87, .iinc 4 1), (90, .goto (-41)), (93, .iconst 0), (94, .istore 4), (96, .iload 4), (98, .iconst 4), (99, .if_icmp .ge 35), (102, .aload_n 3), (103, .bipush 12), (105, .iload 4), (107, .iadd), (108, .aload_n 3), (109, .iload 4), (111, .iaload), (112, .aload_n 3), (113, .iconst 4), (114, .iload 4), (116, .iadd), (117, .iaload), (118, .ixor), (119, .aload_n 3), (120, .bipush 8), (122, .iload 4), (124, .iadd), (125, .iaload), (126, .ixor), (127, .iastore), (128, .iinc 4 1), (131, .goto (-35)), (134, .aload_n 3), (135, .areturn)]
theorem okX9_blockOf : mi_tb (pP.2.2.2.1 kX9_blockOf).2.1 tbX9_blockOf := mi_tb.of (by decide +kernel)
theorem enX9_blockOf {X : mi_X} {d : Nat} {avs : List Value} {h : mi_H} {mc ms : Nat} {Q : Option Value → mi_H → Prop} (hn : (lg_sl avs).length ≤ (pP.2.2.2.1 kX9_blockOf).2.2.1) (body : mi_W pP X kX9_blockOf d mc ms 0 (lv_args 0 avs) [] h Q) : mi_S pP X kX9_blockOf d avs h mc ms Q := mi_S.of pP_ok rfl (by decide +kernel) hn body
def tbX9_nibblesOf : List (Nat × Instr) := [(0, .lconst 0), (1, .lstore_n 2), (2, .bipush 8), (4, .istore 4), (6, .iload 4), (8, .ifCond .lt 35), (11, .lload_n 2), (12, .ldc2_w 60), (15, .lmul), (16, .iconst 0), (17, .aload_n 1), (18, .iload 4), (20, .invokestatic 50), (23, .iaload), (24, .invokestatic 62), (27, .iload_n 0), (28, .iload 4), (30, .invokestatic 56), (33, .ixor), (34, .i2l), (35, .ladd), (36, .lstore_n 2), (37, .iinc 4 (-1)), (40, .goto (-34)), (43, .lload_n 2), (44, .lreturn)]
theorem okX9_nibblesOf : mi_tb (pP.2.2.2.1 kX9_nibblesOf).2.1 tbX9_nibblesOf := mi_tb.of (by decide +kernel)
theorem enX9_nibblesOf {X : mi_X} {d : Nat} {avs : List Value} {h : mi_H} {mc ms : Nat} {Q : Option Value → mi_H → Prop} (hn : (lg_sl avs).length ≤ (pP.2.2.2.1 kX9_nibblesOf).2.2.1) (body : mi_W pP X kX9_nibblesOf d mc ms 0 (lv_args 0 avs) [] h Q) : mi_S pP X kX9_nibblesOf d avs h mc ms Q := mi_S.of pP_ok rfl (by decide +kernel) hn body
def tbX9_sumOf : List (Nat × Instr) := [(0, .iconst 0), (1, .istore_n 2), (2, .iconst 0), (3, .istore_n 3), (4, .iload_n 3), (5, .bipush 9), (7, .if_icmp .ge 26), (10, .iload_n 2), (11, .iload_n 3), (12, .iconst 1), (13, .iadd), (14, .lload_n 0), (15, .iconst 4), (16, .iload_n 3), (17, .imul), (18, .lshr), (19, .ldc2_w 54), (22, .land), (23, .l2i), (24, .imul), (25, .iadd), (26, .istore_n 2), (27, .iinc 3 1), (30, .goto (-26)), (33, .iload_n 2), (34, .sipush 251), (37, .irem), (38, .ireturn)]
theorem okX9_sumOf : mi_tb (pP.2.2.2.1 kX9_sumOf).2.1 tbX9_sumOf := mi_tb.of (by decide +kernel)
theorem enX9_sumOf {X : mi_X} {d : Nat} {avs : List Value} {h : mi_H} {mc ms : Nat} {Q : Option Value → mi_H → Prop} (hn : (lg_sl avs).length ≤ (pP.2.2.2.1 kX9_sumOf).2.2.1) (body : mi_W pP X kX9_sumOf d mc ms 0 (lv_args 0 avs) [] h Q) : mi_S pP X kX9_sumOf d avs h mc ms Q := mi_S.of pP_ok rfl (by decide +kernel) hn body
def tbX9_at : List (Nat × Instr) := [(0, .iload_n 0), (1, .iconst 4), (2, .if_icmp .ge 11), (5, .iconst 4), (6, .iload_n 0), (7, .imul), (8, .iload_n 1), (9, .iadd), (10, .goto 10), (13, .iconst 4), (14, .iload_n 1), (15, .imul), (16, .iload_n 0), (17, .iadd), (18, .iconst 4), (19, .isub), (20, .ireturn)]
theorem okX9_at : mi_tb (pP.2.2.2.1 kX9_at).2.1 tbX9_at := mi_tb.of (by decide +kernel)
theorem enX9_at {X : mi_X} {d : Nat} {avs : List Value} {h : mi_H} {mc ms : Nat} {Q : Option Value → mi_H → Prop} (hn : (lg_sl avs).length ≤ (pP.2.2.2.1 kX9_at).2.2.1) (body : mi_W pP X kX9_at d mc ms 0 (lv_args 0 avs) [] h Q) : mi_S pP X kX9_at d avs h mc ms Q := mi_S.of pP_ok rfl (by decide +kernel) hn body
def tbX9_parity : List (Nat × Instr) := [(0, .iconst 0), (1, .istore_n 2), (2, .iconst 0), (3, .istore_n 3), (4, .iload_n 3), (5, .iconst 4), (6, .if_icmp .ge 19), (9, .iload_n 2), (10, .aload_n 0), (11, .iload_n 1), (12, .iload_n 3), (13, .invokestatic 67), (16, .iaload), (17, .ixor), (18, .istore_n 2), (19, .iinc 3 1), (22, .goto (-18)), (25, .iload_n 2), (26, .ireturn)]
theorem okX9_parity : mi_tb (pP.2.2.2.1 kX9_parity).2.1 tbX9_parity := mi_tb.of (by decide +kernel)
theorem enX9_parity {X : mi_X} {d : Nat} {avs : List Value} {h : mi_H} {mc ms : Nat} {Q : Option Value → mi_H → Prop} (hn : (lg_sl avs).length ≤ (pP.2.2.2.1 kX9_parity).2.2.1) (body : mi_W pP X kX9_parity d mc ms 0 (lv_args 0 avs) [] h Q) : mi_S pP X kX9_parity d avs h mc ms Q := mi_S.of pP_ok rfl (by decide +kernel) hn body
def tbX9_fill : List (Nat × Instr) := [(0, .iconst (-1)), (1, .istore_n 2), (2, .iconst 0), (3, .istore_n 3), (4, .iconst 0), (5, .istore 4), (7, .iload 4), (9, .iconst 4), (10, .if_icmp .ge 44), (13, .iload_n 1), (14, .iload 4), (16, .invokestatic 67), (19, .istore 5), (21, .aload_n 0), (22, .iload 5), (24, .iaload), (25, .ifCond .lt 13), (28, .iload_n 3), (29, .aload_n 0), (30, .iload 5), (32, .iaload), (33, .ixor), (34, .istore_n 3), (35, .goto 13), (38, .iload_n 2), (39, .iconst (-1)), (40, .if_icmp .eq 5), (43, .iconst 0), (44, .ireturn), (45, .iload 5), (47, .istore_n 2), (48, .iinc 4 1), (51, .goto (-44)), (54, .iload_n 2), (55, .iconst (-1)), (56, .if_icmp .ne 5), (59, .iconst 0), (60, .ireturn), (61, .aload_n 0), (62, .iload_n 2), (63, .iload_n 3), (64, .iastore), (65, .iconst 1), (66, .ireturn)]
theorem okX9_fill : mi_tb (pP.2.2.2.1 kX9_fill).2.1 tbX9_fill := mi_tb.of (by decide +kernel)
theorem enX9_fill {X : mi_X} {d : Nat} {avs : List Value} {h : mi_H} {mc ms : Nat} {Q : Option Value → mi_H → Prop} (hn : (lg_sl avs).length ≤ (pP.2.2.2.1 kX9_fill).2.2.1) (body : mi_W pP X kX9_fill d mc ms 0 (lv_args 0 avs) [] h Q) : mi_S pP X kX9_fill d avs h mc ms Q := mi_S.of pP_ok rfl (by decide +kernel) hn body
def tbX9_mended : List (Nat × Instr) := [(0, .aload_n 0), (1, .ifnonnull 5), (4, .aconst_null), (5, .areturn), (6, .bipush 16), (8, .newarray .int), (10, .astore_n 1), (11, .aload_n 0), (12, .iconst 0), (13, .aload_n 1), (14, .iconst 0), (15, .bipush 16), (17, .invokestatic 70), (20, .iconst 1), (21, .istore_n 2), (22, .iload_n 2), (23, .ifCond .eq 30), (26, .iconst 0), (27, .istore_n 2), (28, .iconst 0), (29, .istore_n 3), (30, .iload_n 3), (31, .bipush 8), (33, .if_icmp .ge 17), (36, .iload_n 2), (37, .aload_n 1), (38, .iload_n 3), (39, .invokestatic 76), (42, .ior), (43, .istore_n 2), (44, .iinc 3 1), (47, .goto (-17)), (50, .goto (-28)), (53, .aload_n 1), (54, .astore_n 3), (55, .aload_n 3), (56, .arraylength), (57, .istore 4), (59, .iconst 0), (60, .istore 5), (62, .iload 5), (64, .iload 4), (66, .if_icmp .ge 22), (69, .aload_n 3), (70, .iload 5), (72, .iaload), (73, .istore 6), (75, .iload 6), (77, .ifCond .ge 5), (80, .aconst_null), (81, .areturn), (82, .iinc 5 1), (85, .goto (-23)), (88, .iconst 0), (89, .istore_n 3), (90, .iconst 0), (91, .istore 4), (93, .iconst 0), (94, .istore 5), (96, .iconst 0), (97, .istore 6), (99, .iconst 0), (100, .istore 7), (102, .iload 7), (104, .bipush 8), (106, .if_icmp .ge 43), (109, .aload_n 1), (110, .iload 7), (112, .invokestatic 80), (115, .ifCond .eq 28), (118, .iload 7), (120, .iconst 4), (121, .if_icmp .ge 13), (124, .iinc 3 1), (127, .iload 7), (129, .istore 5), (131, .goto 12), (134, .iinc 4 1), (137, .iload 7), (139, .iconst 4), (140, .isub), (141, .istore 6), (143, .iinc 7 1), (146, .goto (-44)), (149, .iload_n 3), (150, .iconst 1), (151, .if_icmp .ne 27), (154, .iload 4), (156, .iconst 1), (157, .if_icmp .ne 21), (160, .aload_n 1), (161, .iconst 4), (162, .iload 5), (164, .imul), (165, .iload 6), (167, .iadd), (168, .dup2), (169, .iaload), (170, .aload_n 1), (171, .iload 5), (173, .invokestatic 80), (176, .ixor), (177, .iastore), (178, .aload_n 1), (179, .areturn)]
theorem okX9_mended : mi_tb (pP.2.2.2.1 kX9_mended).2.1 tbX9_mended := mi_tb.of (by decide +kernel)
theorem enX9_mended {X : mi_X} {d : Nat} {avs : List Value} {h : mi_H} {mc ms : Nat} {Q : Option Value → mi_H → Prop} (hn : (lg_sl avs).length ≤ (pP.2.2.2.1 kX9_mended).2.2.1) (body : mi_W pP X kX9_mended d mc ms 0 (lv_args 0 avs) [] h Q) : mi_S pP X kX9_mended d avs h mc ms Q := mi_S.of pP_ok rfl (by decide +kernel) hn body
def tbX9_worth : List (Nat × Instr) := [(0, .aload_n 2), (1, .invokestatic 84), (4, .astore_n 3), (5, .aload_n 3), (6, .ifnonnull 5), (9, .iconst 2), (10, .ireturn), (11, .iconst 1), (12, .istore 4), (14, .iconst 0), (15, .istore 5), (17, .iload 5), (19, .bipush 8), (21, .if_icmp .ge 28), (24, .iload 4), (26, .aload_n 3), (27, .iload 5), (29, .invokestatic 80), (32, .ifCond .ne 7), (35, .iconst 1), (36, .goto 4), (39, .iconst 0), (40, .iand), (41, .istore 4), (43, .iinc 5 1), (46, .goto (-29)), (49, .aload_n 0), (50, .getfield 25), (53, .iload_n 1), (54, .iaload), (55, .iconst (-1)), (56, .if_icmp .eq 29), (59, .aload_n 0), (60, .getfield 21), (63, .aload_n 0), (64, .getfield 25), (67, .iload_n 1), (68, .iaload), (69, .invokevirtual 88), (72, .checkcast 9), (75, .iconst 1), (76, .iaload), (77, .iconst 1), (78, .if_icmp .ne 7), (81, .iconst 1), (82, .goto 4), (85, .iconst 0), (86, .istore 5), (88, .iload 4), (90, .ifCond .eq 29), (93, .iload 5), (95, .ifCond .eq 20), (98, .iload_n 1), (99, .aload_n 3), (100, .invokestatic 92), (103, .invokestatic 96), (106, .aload_n 0), (107, .getfield 15), (110, .iload_n 1), (111, .iaload), (112, .if_icmp .ne 7), (115, .iconst 0), (116, .goto 4), (119, .iconst 1), (120, .ireturn)]
theorem okX9_worth : mi_tb (pP.2.2.2.1 kX9_worth).2.1 tbX9_worth := mi_tb.of (by decide +kernel)
theorem enX9_worth {X : mi_X} {d : Nat} {avs : List Value} {h : mi_H} {mc ms : Nat} {Q : Option Value → mi_H → Prop} (hn : (lg_sl avs).length ≤ (pP.2.2.2.1 kX9_worth).2.2.1) (body : mi_W pP X kX9_worth d mc ms 0 (lv_args 0 avs) [] h Q) : mi_S pP X kX9_worth d avs h mc ms Q := mi_S.of pP_ok rfl (by decide +kernel) hn body
def tbX9_worth_ : List (Nat × Instr) := [(0, .aload_n 0), (1, .iload_n 1), (2, .aload_n 0), (3, .getfield 11), (6, .iload_n 1), (7, .aaload), (8, .invokevirtual 100), (11, .ireturn)]
theorem okX9_worth_ : mi_tb (pP.2.2.2.1 kX9_worth_).2.1 tbX9_worth_ := mi_tb.of (by decide +kernel)
theorem enX9_worth_ {X : mi_X} {d : Nat} {avs : List Value} {h : mi_H} {mc ms : Nat} {Q : Option Value → mi_H → Prop} (hn : (lg_sl avs).length ≤ (pP.2.2.2.1 kX9_worth_).2.2.1) (body : mi_W pP X kX9_worth_ d mc ms 0 (lv_args 0 avs) [] h Q) : mi_S pP X kX9_worth_ d avs h mc ms Q := mi_S.of pP_ok rfl (by decide +kernel) hn body
def tbX9_isGood : List (Nat × Instr) := [(0, .aload_n 0), (1, .iload_n 1), (2, .invokevirtual 104), (5, .ifCond .ne 7), (8, .iconst 1), (9, .goto 4), (12, .iconst 0), (13, .ireturn)]
theorem okX9_isGood : mi_tb (pP.2.2.2.1 kX9_isGood).2.1 tbX9_isGood := mi_tb.of (by decide +kernel)
theorem enX9_isGood {X : mi_X} {d : Nat} {avs : List Value} {h : mi_H} {mc ms : Nat} {Q : Option Value → mi_H → Prop} (hn : (lg_sl avs).length ≤ (pP.2.2.2.1 kX9_isGood).2.2.1) (body : mi_W pP X kX9_isGood d mc ms 0 (lv_args 0 avs) [] h Q) : mi_S pP X kX9_isGood d avs h mc ms Q := mi_S.of pP_ok rfl (by decide +kernel) hn body
def tbX9_bit : List (Nat × Instr) := [(0, .iload_n 1), (1, .iconst 1), (2, .if_icmp .ne 17), (5, .aload_n 0), (6, .iconst 0), (7, .aload_n 0), (8, .iconst 0), (9, .iaload), (10, .ineg), (11, .iastore), (12, .aload_n 0), (13, .iconst 2), (14, .dup2), (15, .iaload), (16, .iconst 1), (17, .iadd), (18, .iastore), (19, .aload_n 0), (20, .iconst 1), (21, .dup2), (22, .iaload), (23, .aload_n 0), (24, .iconst 0), (25, .iaload), (26, .iadd), (27, .iastore), (28, .aload_n 0), (29, .iconst 3), (30, .aload_n 0), (31, .iconst 3), (32, .iaload), (33, .aload_n 0), (34, .iconst 1), (35, .iaload), (36, .invokestatic 106), (39, .invokestatic 62), (42, .iastore), (43, .aload_n 0), (44, .iconst 4), (45, .iload_n 1), (46, .iastore), (47, .return_)]
theorem okX9_bit : mi_tb (pP.2.2.2.1 kX9_bit).2.1 tbX9_bit := mi_tb.of (by decide +kernel)
theorem enX9_bit {X : mi_X} {d : Nat} {avs : List Value} {h : mi_H} {mc ms : Nat} {Q : Option Value → mi_H → Prop} (hn : (lg_sl avs).length ≤ (pP.2.2.2.1 kX9_bit).2.2.1) (body : mi_W pP X kX9_bit d mc ms 0 (lv_args 0 avs) [] h Q) : mi_S pP X kX9_bit d avs h mc ms Q := mi_S.of pP_ok rfl (by decide +kernel) hn body
def tbX9_after : List (Nat × Instr) := [(0, .iconst 5), (1, .newarray .int), (3, .astore_n 3), (4, .aload_n 0), (5, .iconst 0), (6, .aload_n 3), (7, .iconst 0), (8, .iconst 5), (9, .invokestatic 70), (12, .aload_n 3), (13, .iload_n 1), (14, .invokestatic 109), (17, .bipush 6), (19, .istore 4), (21, .iload 4), (23, .ifCond .lt 19), (26, .aload_n 3), (27, .iload_n 2), (28, .iload 4), (30, .ishr), (31, .iconst 1), (32, .iand), (33, .invokestatic 109), (36, .iinc 4 (-1)), (39, .goto (-18)), (42, .aload_n 3), (43, .areturn)]
theorem okX9_after : mi_tb (pP.2.2.2.1 kX9_after).2.1 tbX9_after := mi_tb.of (by decide +kernel)
theorem enX9_after {X : mi_X} {d : Nat} {avs : List Value} {h : mi_H} {mc ms : Nat} {Q : Option Value → mi_H → Prop} (hn : (lg_sl avs).length ≤ (pP.2.2.2.1 kX9_after).2.2.1) (body : mi_W pP X kX9_after d mc ms 0 (lv_args 0 avs) [] h Q) : mi_S pP X kX9_after d avs h mc ms Q := mi_S.of pP_ok rfl (by decide +kernel) hn body
def tbX9_marks : List (Nat × Instr) := [(0, .iconst 5), (1, .newarray .int), (3, .dup), (4, .iconst 0), (5, .iconst 1), (6, .iastore), (7, .dup), (8, .iconst 1), (9, .iconst 0), (10, .iastore), (11, .dup), (12, .iconst 2), (13, .iconst 0), (14, .iastore), (15, .dup), (16, .iconst 3), (17, .iconst 0), (18, .iastore), (19, .dup), (20, .iconst 4), (21, .iconst 0), (22, .iastore), (23, .astore_n 1), (24, .iconst 0), (25, .istore_n 2), (26, .iload_n 2), (27, .bipush 16), (29, .if_icmp .ge 90), (32, .aload_n 0), (33, .ifnull 86), (36, .getstatic 113), (39, .iconst 0), (40, .aload_n 0), (41, .iload_n 2), (42, .iaload), (43, .invokestatic 62), (46, .iaload), (47, .istore_n 3), (48, .aload_n 1), (49, .iconst 0), (50, .iload_n 3), (51, .invokestatic 116), (54, .astore 4), (56, .aload_n 1), (57, .iconst 1), (58, .iload_n 3), (59, .invokestatic 116), (62, .astore 5), (64, .aload_n 1), (65, .iconst 4), (66, .iaload), (67, .ifCond .ne 13), (70, .iload_n 3), (71, .bipush 64), (73, .if_icmp .ge 7), (76, .iconst 1), (77, .goto 4), (80, .iconst 0), (81, .istore 6), (83, .iload 6), (85, .ifCond .eq 25), (88, .aload 5), (90, .iconst 1), (91, .iaload), (92, .invokestatic 106), (95, .aload 4), (97, .iconst 1), (98, .iaload), (99, .invokestatic 106), (102, .if_icmp .ge 8), (105, .aload 5), (107, .goto 5), (110, .aload 4), (112, .astore_n 1), (113, .iinc 2 1), (116, .goto (-90)), (119, .aload_n 1), (120, .areturn)]
theorem okX9_marks : mi_tb (pP.2.2.2.1 kX9_marks).2.1 tbX9_marks := mi_tb.of (by decide +kernel)
theorem enX9_marks {X : mi_X} {d : Nat} {avs : List Value} {h : mi_H} {mc ms : Nat} {Q : Option Value → mi_H → Prop} (hn : (lg_sl avs).length ≤ (pP.2.2.2.1 kX9_marks).2.2.1) (body : mi_W pP X kX9_marks d mc ms 0 (lv_args 0 avs) [] h Q) : mi_S pP X kX9_marks d avs h mc ms Q := mi_S.of pP_ok rfl (by decide +kernel) hn body
def tbX9_session : List (Nat × Instr) := [(0, .aload_n 0), (1, .aload_n 0), (2, .getfield 120), (5, .ifCond .ne 30), (8, .aload_n 0), (9, .getfield 124), (12, .iconst 3), (13, .if_icmp .eq 22), (16, .aload_n 0), (17, .getfield 28), (20, .ifCond .eq 15), (23, .aload_n 0), (24, .getfield 127), (27, .iconst 4), (28, .iadd), (29, .sipush 240), (32, .if_icmp .le 7), (35, .iconst 1), (36, .goto 4), (39, .iconst 0), (40, .iconst 1), (41, .invokevirtual 130), (44, .ifCond .eq 5), (47, .iconst 0), (48, .ireturn), (49, .aload_n 0), (50, .dup), (51, .getfield 28), (54, .iconst 1), (55, .isub), (56, .putfield 28), (59, .aload_n 0), (60, .dup), (61, .getfield 127), (64, .iconst 4), (65, .iadd), (66, .putfield 127), (69, .aload_n 0), (70, .iconst 1), (71, .putfield 120), (74, .aload_n 0), (75, .dup), (76, .getfield 124), (79, .iconst 1), (80, .iadd), (81, .putfield 124), (84, .aload_n 0), (85, .getfield 124), (88, .iconst 1), (89, .isub), (90, .ireturn)]
theorem okX9_session : mi_tb (pP.2.2.2.1 kX9_session).2.1 tbX9_session := mi_tb.of (by decide +kernel)
theorem enX9_session {X : mi_X} {d : Nat} {avs : List Value} {h : mi_H} {mc ms : Nat} {Q : Option Value → mi_H → Prop} (hn : (lg_sl avs).length ≤ (pP.2.2.2.1 kX9_session).2.2.1) (body : mi_W pP X kX9_session d mc ms 0 (lv_args 0 avs) [] h Q) : mi_S pP X kX9_session d avs h mc ms Q := mi_S.of pP_ok rfl (by decide +kernel) hn body
def tbX9_track : List (Nat × Instr) := [(0, .aload_n 0), (1, .iload_n 1), (2, .iconst 0), (3, .iconst 1), (4, .invokestatic 46), (7, .ifCond .eq 13), (10, .iload_n 2), (11, .iconst 1), (12, .bipush 40), (14, .invokestatic 46), (17, .ifCond .ne 7), (20, .iconst 1), (21, .goto 4), (24, .iconst 0), (25, .iconst 1), (26, .invokevirtual 130), (29, .ifCond .ne 49), (32, .aload_n 0), (33, .aload_n 0), (34, .getfield 120), (37, .ifCond .eq 29), (40, .aload_n 0), (41, .getfield 21), (44, .invokevirtual 42), (47, .bipush 8), (49, .if_icmp .eq 17), (52, .aload_n 0), (53, .getfield 127), (56, .iconst 2), (57, .iadd), (58, .iload_n 2), (59, .iadd), (60, .sipush 240), (63, .if_icmp .le 7), (66, .iconst 1), (67, .goto 4), (70, .iconst 0), (71, .iconst 2), (72, .invokevirtual 38), (75, .ifCond .eq 5), (78, .iconst 0), (79, .ireturn), (80, .aload_n 0), (81, .getfield 127), (84, .iconst 2), (85, .iadd), (86, .istore_n 3), (87, .iconst 0), (88, .istore 4), (90, .iload 4), (92, .iload_n 2), (93, .if_icmp .ge 25), (96, .aload_n 0), (97, .getfield 25), (100, .iload_n 3), (101, .iload 4), (103, .iadd), (104, .aload_n 0), (105, .getfield 21), (108, .invokevirtual 42), (111, .iastore), (112, .iinc 4 1), (115, .goto (-25)), (118, .aload_n 0), (119, .getfield 21), (122, .bipush 7), (124, .newarray .int), (126, .dup), (127, .iconst 0), (128, .aload_n 0), (129, .getfield 124), (132, .iconst 1), (133, .isub), (134, .iastore), (135, .dup), (136, .iconst 1), (137, .iload_n 1), (138, .iastore), (139, .dup), (140, .iconst 2), (141, .iload_n 3), (142, .iastore), (143, .dup), (144, .iconst 3), (145, .iload_n 2), (146, .iastore), (147, .dup), (148, .iconst 4), (149, .iconst 0), (150, .iastore), (151, .dup), (152, .iconst 5), (153, .iconst 0), (154, .iastore), (155, .dup), (156, .bipush 6), (158, .iconst 0), (159, .iastore), (160, .invokevirtual 133), (163, .pop), (164, .aload_n 0), (165, .iload_n 3), (166, .iload_n 2), (167, .iadd), (168, .putfield 127), (171, .iload_n 3), (172, .ireturn)]
theorem okX9_track : mi_tb (pP.2.2.2.1 kX9_track).2.1 tbX9_track := mi_tb.of (by decide +kernel)
theorem enX9_track {X : mi_X} {d : Nat} {avs : List Value} {h : mi_H} {mc ms : Nat} {Q : Option Value → mi_H → Prop} (hn : (lg_sl avs).length ≤ (pP.2.2.2.1 kX9_track).2.2.1) (body : mi_W pP X kX9_track d mc ms 0 (lv_args 0 avs) [] h Q) : mi_S pP X kX9_track d avs h mc ms Q := mi_S.of pP_ok rfl (by decide +kernel) hn body
def tbX9_isDone : List (Nat × Instr) := [(0, .aload_n 0), (1, .getfield 21), (4, .iload_n 1), (5, .invokevirtual 88), (8, .checkcast 9), (11, .astore_n 2), (12, .aload_n 2), (13, .bipush 6), (15, .iaload), (16, .iconst 1), (17, .if_icmp .eq 12), (20, .aload_n 2), (21, .iconst 4), (22, .iaload), (23, .aload_n 2), (24, .iconst 3), (25, .iaload), (26, .if_icmp .ne 7), (29, .iconst 1), (30, .goto 4), (33, .iconst 0), (34, .ireturn)]
theorem okX9_isDone : mi_tb (pP.2.2.2.1 kX9_isDone).2.1 tbX9_isDone := mi_tb.of (by decide +kernel)
theorem enX9_isDone {X : mi_X} {d : Nat} {avs : List Value} {h : mi_H} {mc ms : Nat} {Q : Option Value → mi_H → Prop} (hn : (lg_sl avs).length ≤ (pP.2.2.2.1 kX9_isDone).2.2.1) (body : mi_W pP X kX9_isDone d mc ms 0 (lv_args 0 avs) [] h Q) : mi_S pP X kX9_isDone d avs h mc ms Q := mi_S.of pP_ok rfl (by decide +kernel) hn body
def tbX9_write : List (Nat × Instr) := [(0, .aload_n 0), (1, .aload_n 0), (2, .iload_n 1), (3, .invokevirtual 137), (6, .iconst 1), (7, .invokevirtual 130), (10, .ifCond .ne 43), (13, .aload_n 0), (14, .lload_n 2), (15, .lconst 0), (16, .lcmp), (17, .ifCond .lt 11), (20, .lload_n 2), (21, .ldc2_w 141), (24, .lcmp), (25, .ifCond .le 7), (28, .iconst 1), (29, .goto 4), (32, .iconst 0), (33, .iconst 2), (34, .invokevirtual 38), (37, .ifCond .ne 16), (40, .aload_n 0), (41, .aload_n 0), (42, .iload_n 1), (43, .invokevirtual 143), (46, .iconst 3), (47, .invokevirtual 38), (50, .ifCond .eq 5), (53, .iconst 0), (54, .ireturn), (55, .aload_n 0), (56, .getfield 21), (59, .iload_n 1), (60, .invokevirtual 88), (63, .checkcast 9), (66, .astore 4), (68, .aload 4), (70, .iconst 2), (71, .iaload), (72, .aload 4), (74, .iconst 4), (75, .iaload), (76, .iadd), (77, .istore 5), (79, .aload 4), (81, .iconst 4), (82, .dup2), (83, .iaload), (84, .iconst 1), (85, .iadd), (86, .iastore), (87, .aload_n 0), (88, .getfield 11), (91, .iload 5), (93, .iload 5), (95, .lload_n 2), (96, .invokestatic 146), (99, .aastore), (100, .aload_n 0), (101, .getfield 15), (104, .iload 5), (106, .lload_n 2), (107, .invokestatic 96), (110, .iastore), (111, .iload 5), (113, .ireturn)]
theorem okX9_write : mi_tb (pP.2.2.2.1 kX9_write).2.1 tbX9_write := mi_tb.of (by decide +kernel)
theorem enX9_write {X : mi_X} {d : Nat} {avs : List Value} {h : mi_H} {mc ms : Nat} {Q : Option Value → mi_H → Prop} (hn : (lg_sl avs).length ≤ (pP.2.2.2.1 kX9_write).2.2.1) (body : mi_W pP X kX9_write d mc ms 0 (lv_args 0 avs) [] h Q) : mi_S pP X kX9_write d avs h mc ms Q := mi_S.of pP_ok rfl (by decide +kernel) hn body
def tbX9_starve : List (Nat × Instr) := [(0, .aload_n 0), (1, .aload_n 0), (2, .iload_n 1), (3, .invokevirtual 137), (6, .iconst 1), (7, .invokevirtual 130), (10, .ifCond .ne 31), (13, .aload_n 0), (14, .aload_n 0), (15, .iload_n 1), (16, .invokevirtual 143), (19, .ifCond .ne 10), (22, .aload_n 0), (23, .getfield 28), (26, .ifCond .ne 7), (29, .iconst 1), (30, .goto 4), (33, .iconst 0), (34, .iconst 2), (35, .invokevirtual 38), (38, .ifCond .eq 5), (41, .iconst 0), (42, .ireturn), (43, .aload_n 0), (44, .getfield 21), (47, .iload_n 1), (48, .invokevirtual 88), (51, .checkcast 9), (54, .astore_n 2), (55, .aload_n 0), (56, .dup), (57, .getfield 28), (60, .iconst 1), (61, .isub), (62, .putfield 28), (65, .aload_n 2), (66, .iconst 4), (67, .dup2), (68, .iaload), (69, .iconst 1), (70, .iadd), (71, .iastore), (72, .aload_n 2), (73, .iconst 5), (74, .dup2), (75, .iaload), (76, .iconst 1), (77, .iadd), (78, .iastore), (79, .aload_n 2), (80, .iconst 2), (81, .iaload), (82, .aload_n 2), (83, .iconst 4), (84, .iaload), (85, .iadd), (86, .iconst 1), (87, .isub), (88, .ireturn)]
theorem okX9_starve : mi_tb (pP.2.2.2.1 kX9_starve).2.1 tbX9_starve := mi_tb.of (by decide +kernel)
theorem enX9_starve {X : mi_X} {d : Nat} {avs : List Value} {h : mi_H} {mc ms : Nat} {Q : Option Value → mi_H → Prop} (hn : (lg_sl avs).length ≤ (pP.2.2.2.1 kX9_starve).2.2.1) (body : mi_W pP X kX9_starve d mc ms 0 (lv_args 0 avs) [] h Q) : mi_S pP X kX9_starve d avs h mc ms Q := mi_S.of pP_ok rfl (by decide +kernel) hn body
def tbX9_close : List (Nat × Instr) := [(0, .aload_n 0), (1, .aload_n 0), (2, .iload_n 1), (3, .invokevirtual 137), (6, .iconst 1), (7, .invokevirtual 130), (10, .ifCond .ne 34), (13, .aload_n 0), (14, .aload_n 0), (15, .getfield 21), (18, .iload_n 1), (19, .invokevirtual 88), (22, .checkcast 9), (25, .bipush 6), (27, .iaload), (28, .iconst 1), (29, .if_icmp .ne 7), (32, .iconst 1), (33, .goto 4), (36, .iconst 0), (37, .iconst 2), (38, .invokevirtual 38), (41, .ifCond .eq 5), (44, .iconst 0), (45, .ireturn), (46, .aload_n 0), (47, .getfield 21), (50, .iload_n 1), (51, .invokevirtual 88), (54, .checkcast 9), (57, .astore_n 2), (58, .aload_n 2), (59, .bipush 6), (61, .iconst 1), (62, .iastore), (63, .iload_n 1), (64, .aload_n 0), (65, .getfield 21), (68, .invokevirtual 42), (71, .iconst 1), (72, .isub), (73, .if_icmp .eq 5), (76, .iconst 0), (77, .ireturn), (78, .aload_n 2), (79, .iconst 3), (80, .iaload), (81, .aload_n 2), (82, .iconst 4), (83, .iaload), (84, .isub), (85, .istore_n 3), (86, .aload_n 2), (87, .iconst 4), (88, .iaload), (89, .istore 4), (91, .iload 4), (93, .aload_n 2), (94, .iconst 3), (95, .iaload), (96, .if_icmp .ge 21), (99, .aload_n 0), (100, .getfield 25), (103, .aload_n 2), (104, .iconst 2), (105, .iaload), (106, .iload 4), (108, .iadd), (109, .iconst (-1)), (110, .iastore), (111, .iinc 4 1), (114, .goto (-23)), (117, .aload_n 2), (118, .iconst 3), (119, .aload_n 2), (120, .iconst 4), (121, .iaload), (122, .iastore), (123, .aload_n 0), (124, .aload_n 2), (125, .iconst 2), (126, .iaload), (127, .aload_n 2), (128, .iconst 3), (129, .iaload), (130, .iadd), (131, .putfield 127), (134, .iload_n 3), (135, .ireturn)]
theorem okX9_close : mi_tb (pP.2.2.2.1 kX9_close).2.1 tbX9_close := mi_tb.of (by decide +kernel)
theorem enX9_close {X : mi_X} {d : Nat} {avs : List Value} {h : mi_H} {mc ms : Nat} {Q : Option Value → mi_H → Prop} (hn : (lg_sl avs).length ≤ (pP.2.2.2.1 kX9_close).2.2.1) (body : mi_W pP X kX9_close d mc ms 0 (lv_args 0 avs) [] h Q) : mi_S pP X kX9_close d avs h mc ms Q := mi_S.of pP_ok rfl (by decide +kernel) hn body
def tbX9_end : List (Nat × Instr) := [(0, .aload_n 0), (1, .getfield 120), (4, .ifCond .eq 15), (7, .aload_n 0), (8, .getfield 127), (11, .iconst 2), (12, .iadd), (13, .sipush 240), (16, .if_icmp .le 7), (19, .iconst 1), (20, .goto 4), (23, .iconst 0), (24, .istore_n 1), (25, .aload_n 0), (26, .getfield 21), (29, .invokevirtual 150), (32, .astore_n 2), (33, .aload_n 2), (34, .invokeinterface 154 1), (39, .ifCond .eq 31), (42, .aload_n 2), (43, .invokeinterface 160 1), (48, .checkcast 9), (51, .astore_n 3), (52, .iload_n 1), (53, .aload_n 3), (54, .bipush 6), (56, .iaload), (57, .ifCond .ne 7), (60, .iconst 1), (61, .goto 4), (64, .iconst 0), (65, .ior), (66, .istore_n 1), (67, .goto (-34)), (70, .aload_n 0), (71, .iload_n 1), (72, .iconst 1), (73, .invokevirtual 130), (76, .ifCond .eq 5), (79, .iconst 0), (80, .ireturn), (81, .aload_n 0), (82, .iconst 0), (83, .putfield 120), (86, .aload_n 0), (87, .dup), (88, .getfield 127), (91, .iconst 2), (92, .iadd), (93, .putfield 127), (96, .aload_n 0), (97, .getfield 127), (100, .ireturn)]
theorem okX9_end : mi_tb (pP.2.2.2.1 kX9_end).2.1 tbX9_end := mi_tb.of (by decide +kernel)
theorem enX9_end {X : mi_X} {d : Nat} {avs : List Value} {h : mi_H} {mc ms : Nat} {Q : Option Value → mi_H → Prop} (hn : (lg_sl avs).length ≤ (pP.2.2.2.1 kX9_end).2.2.1) (body : mi_W pP X kX9_end d mc ms 0 (lv_args 0 avs) [] h Q) : mi_S pP X kX9_end d avs h mc ms Q := mi_S.of pP_ok rfl (by decide +kernel) hn body
def tbX9_isNoFile : List (Nat × Instr) := [(0, .iload_n 1), (1, .iconst 0), (2, .bipush 9), (4, .invokestatic 46), (7, .ifCond .ne 7), (10, .iconst 1), (11, .goto 4), (14, .iconst 0), (15, .ireturn)]
theorem okX9_isNoFile : mi_tb (pP.2.2.2.1 kX9_isNoFile).2.1 tbX9_isNoFile := mi_tb.of (by decide +kernel)
theorem enX9_isNoFile {X : mi_X} {d : Nat} {avs : List Value} {h : mi_H} {mc ms : Nat} {Q : Option Value → mi_H → Prop} (hn : (lg_sl avs).length ≤ (pP.2.2.2.1 kX9_isNoFile).2.2.1) (body : mi_W pP X kX9_isNoFile d mc ms 0 (lv_args 0 avs) [] h Q) : mi_S pP X kX9_isNoFile d avs h mc ms Q := mi_S.of pP_ok rfl (by decide +kernel) hn body
def tbX9_file : List (Nat × Instr) := [(0, .aload_n 0), (1, .aload_n 0), (2, .iload_n 1), (3, .invokevirtual 163), (6, .iconst 1), (7, .invokevirtual 130), (10, .ifCond .eq 5), (13, .iconst 0), (14, .ireturn), (15, .iload_n 2), (16, .invokestatic 166), (19, .ifCond .ne 22), (22, .iload_n 3), (23, .iconst 1), (24, .bipush 20), (26, .invokestatic 46), (29, .ifCond .eq 12), (32, .iload_n 2), (33, .iload_n 3), (34, .iadd), (35, .sipush 240), (38, .if_icmp .le 7), (41, .iconst 1), (42, .goto 4), (45, .iconst 0), (46, .istore 4), (48, .iconst 0), (49, .istore 5), (51, .iload 5), (53, .iload_n 3), (54, .if_icmp .ge 71), (57, .iload 4), (59, .ifCond .ne 66), (62, .aload_n 0), (63, .getfield 25), (66, .iload_n 2), (67, .iaload), (68, .iconst (-1)), (69, .if_icmp .eq 43), (72, .aload_n 0), (73, .getfield 25), (76, .iload_n 2), (77, .iload 5), (79, .iadd), (80, .iaload), (81, .aload_n 0), (82, .getfield 25), (85, .iload_n 2), (86, .iaload), (87, .if_icmp .ne 25), (90, .aload_n 0), (91, .getfield 21), (94, .aload_n 0), (95, .getfield 25), (98, .iload_n 2), (99, .iaload), (100, .invokevirtual 88), (103, .checkcast 9), (106, .iconst 1), (107, .iaload), (108, .iconst 1), (109, .if_icmp .eq 7), (112, .iconst 1), (113, .goto 4), (116, .iconst 0), (117, .istore 4), (119, .iinc 5 1), (122, .goto (-71)), (125, .aload_n 0), (126, .iload 4), (128, .iconst 2), (129, .invokevirtual 38), (132, .ifCond .ne 23), (135, .aload_n 0), (136, .aload_n 0), (137, .getfield 120), (140, .ifCond .ne 7), (143, .iconst 1), (144, .goto 4), (147, .iconst 0), (148, .iconst 3), (149, .invokevirtual 38), (152, .ifCond .eq 5), (155, .iconst 0), (156, .ireturn), (157, .aload_n 0), (158, .getfield 32), (161, .iconst 4), (162, .newarray .int), (164, .dup), (165, .iconst 0), (166, .iload_n 1), (167, .iastore), (168, .dup), (169, .iconst 1), (170, .aload_n 0), (171, .getfield 124), (174, .iconst 1), (175, .isub), (176, .iastore), (177, .dup), (178, .iconst 2), (179, .iload_n 2), (180, .iastore), (181, .dup), (182, .iconst 3), (183, .iload_n 3), (184, .iastore), (185, .invokevirtual 133), (188, .pop), (189, .aload_n 0), (190, .getfield 25), (193, .iload_n 2), (194, .iaload), (195, .ireturn)]
theorem okX9_file : mi_tb (pP.2.2.2.1 kX9_file).2.1 tbX9_file := mi_tb.of (by decide +kernel)
theorem enX9_file {X : mi_X} {d : Nat} {avs : List Value} {h : mi_H} {mc ms : Nat} {Q : Option Value → mi_H → Prop} (hn : (lg_sl avs).length ≤ (pP.2.2.2.1 kX9_file).2.2.1) (body : mi_W pP X kX9_file d mc ms 0 (lv_args 0 avs) [] h Q) : mi_S pP X kX9_file d avs h mc ms Q := mi_S.of pP_ok rfl (by decide +kernel) hn body
def tbX9_turnOf : List (Nat × Instr) := [(0, .iload_n 0), (1, .bipush 60), (3, .if_icmp .ge 10), (6, .iload_n 0), (7, .bipush 6), (9, .idiv), (10, .goto 34), (13, .iload_n 0), (14, .sipush 140), (17, .if_icmp .ge 16), (20, .bipush 10), (22, .iload_n 0), (23, .bipush 60), (25, .isub), (26, .bipush 8), (28, .idiv), (29, .iadd), (30, .goto 14), (33, .bipush 20), (35, .iload_n 0), (36, .sipush 140), (39, .isub), (40, .bipush 10), (42, .idiv), (43, .iadd), (44, .ireturn)]
theorem okX9_turnOf : mi_tb (pP.2.2.2.1 kX9_turnOf).2.1 tbX9_turnOf := mi_tb.of (by decide +kernel)
theorem enX9_turnOf {X : mi_X} {d : Nat} {avs : List Value} {h : mi_H} {mc ms : Nat} {Q : Option Value → mi_H → Prop} (hn : (lg_sl avs).length ≤ (pP.2.2.2.1 kX9_turnOf).2.2.1) (body : mi_W pP X kX9_turnOf d mc ms 0 (lv_args 0 avs) [] h Q) : mi_S pP X kX9_turnOf d avs h mc ms Q := mi_S.of pP_ok rfl (by decide +kernel) hn body
def tbX9_angleOf : List (Nat × Instr) := [(0, .iload_n 0), (1, .bipush 60), (3, .if_icmp .ge 8), (6, .bipush 6), (8, .goto 17), (11, .iload_n 0), (12, .sipush 140), (15, .if_icmp .ge 8), (18, .bipush 8), (20, .goto 5), (23, .bipush 10), (25, .istore_n 1), (26, .iload_n 0), (27, .bipush 60), (29, .if_icmp .ge 10), (32, .iload_n 0), (33, .bipush 6), (35, .irem), (36, .goto 28), (39, .iload_n 0), (40, .sipush 140), (43, .if_icmp .ge 13), (46, .iload_n 0), (47, .bipush 60), (49, .isub), (50, .bipush 8), (52, .irem), (53, .goto 11), (56, .iload_n 0), (57, .sipush 140), (60, .isub), (61, .bipush 10), (63, .irem), (64, .istore_n 2), (65, .iload_n 2), (66, .i2d), (67, .ldc2_w 169), (70, .dmul), (71, .iload_n 1), (72, .i2d), (73, .ddiv), (74, .dreturn)]
theorem okX9_angleOf : mi_tb (pP.2.2.2.1 kX9_angleOf).2.1 tbX9_angleOf := mi_tb.of (by decide +kernel)
theorem enX9_angleOf {X : mi_X} {d : Nat} {avs : List Value} {h : mi_H} {mc ms : Nat} {Q : Option Value → mi_H → Prop} (hn : (lg_sl avs).length ≤ (pP.2.2.2.1 kX9_angleOf).2.2.1) (body : mi_W pP X kX9_angleOf d mc ms 0 (lv_args 0 avs) [] h Q) : mi_S pP X kX9_angleOf d avs h mc ms Q := mi_S.of pP_ok rfl (by decide +kernel) hn body
def tbX9_scratch : List (Nat × Instr) := [(0, .aload_n 0), (1, .iload_n 1), (2, .iconst 0), (3, .bipush 29), (5, .invokestatic 46), (8, .ifCond .eq 36), (11, .iload_n 2), (12, .iload_n 1), (13, .bipush 29), (15, .invokestatic 46), (18, .ifCond .eq 26), (21, .iload_n 3), (22, .iconst 0), (23, .sipush 359), (26, .invokestatic 46), (29, .ifCond .eq 15), (32, .iload 4), (34, .iload_n 3), (35, .sipush 359), (38, .invokestatic 46), (41, .ifCond .ne 7), (44, .iconst 1), (45, .goto 4), (48, .iconst 0), (49, .iconst 1), (50, .invokevirtual 130), (53, .ifCond .eq 5), (56, .iconst 0), (57, .ireturn), (58, .iconst 0), (59, .istore 5), (61, .iconst 0), (62, .istore 6), (64, .iload 6), (66, .sipush 240), (69, .if_icmp .ge 105), (72, .aload_n 0), (73, .getfield 11), (76, .iload 6), (78, .aaload), (79, .ifnull 89), (82, .iload 6), (84, .invokestatic 171), (87, .iload_n 1), (88, .iload_n 2), (89, .invokestatic 46), (92, .ifCond .eq 76), (95, .iload 6), (97, .invokestatic 174), (100, .iload_n 3), (101, .i2d), (102, .dcmp .g), (103, .ifCond .lt 65), (106, .iload 6), (108, .invokestatic 174), (111, .iload 4), (113, .i2d), (114, .dcmp .l), (115, .ifCond .le 6), (118, .goto 50), (121, .iconst 0), (122, .istore 7), (124, .iload 7), (126, .iload 4), (128, .iload_n 3), (129, .isub), (130, .bipush 90), (132, .idiv), (133, .if_icmp .gt 32), (136, .aload_n 0), (137, .getfield 11), (140, .iload 6), (142, .aaload), (143, .iconst 4), (144, .iload 7), (146, .imul), (147, .iload 6), (149, .invokestatic 171), (152, .iload_n 3), (153, .iadd), (154, .iconst 4), (155, .irem), (156, .iadd), (157, .iconst (-1)), (158, .iastore), (159, .iinc 7 1), (162, .goto (-38)), (165, .iinc 5 1), (168, .iinc 6 1), (171, .goto (-107)), (174, .iload 5), (176, .ireturn)]
theorem okX9_scratch : mi_tb (pP.2.2.2.1 kX9_scratch).2.1 tbX9_scratch := mi_tb.of (by decide +kernel)
theorem enX9_scratch {X : mi_X} {d : Nat} {avs : List Value} {h : mi_H} {mc ms : Nat} {Q : Option Value → mi_H → Prop} (hn : (lg_sl avs).length ≤ (pP.2.2.2.1 kX9_scratch).2.2.1) (body : mi_W pP X kX9_scratch d mc ms 0 (lv_args 0 avs) [] h Q) : mi_S pP X kX9_scratch d avs h mc ms Q := mi_S.of pP_ok rfl (by decide +kernel) hn body
def tbX9_rot : List (Nat × Instr) := [(0, .aload_n 0), (1, .iload_n 1), (2, .iconst 0), (3, .sipush 999), (6, .invokestatic 46), (9, .ifCond .ne 7), (12, .iconst 1), (13, .goto 4), (16, .iconst 0), (17, .iconst 1), (18, .invokevirtual 130), (21, .ifCond .eq 5), (24, .iconst 0), (25, .ireturn), (26, .iconst 0), (27, .istore_n 2), (28, .iconst 0), (29, .istore_n 3), (30, .iload_n 3), (31, .sipush 240), (34, .if_icmp .ge 76), (37, .iload_n 3), (38, .bipush 7), (40, .imul), (41, .iload_n 1), (42, .iadd), (43, .bipush 16), (45, .irem), (46, .istore 4), (48, .aload_n 0), (49, .getfield 11), (52, .iload_n 3), (53, .aaload), (54, .ifnull 50), (57, .iload_n 3), (58, .iload_n 1), (59, .iconst 5), (60, .irem), (61, .iconst 2), (62, .iadd), (63, .irem), (64, .ifCond .ne 40), (67, .aload_n 0), (68, .getfield 11), (71, .iload_n 3), (72, .aaload), (73, .iload 4), (75, .iaload), (76, .iconst (-1)), (77, .if_icmp .ne 6), (80, .goto 24), (83, .aload_n 0), (84, .getfield 11), (87, .iload_n 3), (88, .aaload), (89, .iload 4), (91, .dup2), (92, .iaload), (93, .iload_n 1), (94, .bipush 15), (96, .irem), (97, .iconst 1), (98, .iadd), (99, .ixor), (100, .iastore), (101, .iinc 2 1), (104, .iinc 3 1), (107, .goto (-77)), (110, .iload_n 2), (111, .ireturn)]
theorem okX9_rot : mi_tb (pP.2.2.2.1 kX9_rot).2.1 tbX9_rot := mi_tb.of (by decide +kernel)
theorem enX9_rot {X : mi_X} {d : Nat} {avs : List Value} {h : mi_H} {mc ms : Nat} {Q : Option Value → mi_H → Prop} (hn : (lg_sl avs).length ≤ (pP.2.2.2.1 kX9_rot).2.2.1) (body : mi_W pP X kX9_rot d mc ms 0 (lv_args 0 avs) [] h Q) : mi_S pP X kX9_rot d avs h mc ms Q := mi_S.of pP_ok rfl (by decide +kernel) hn body
def tbX9_tray : List (Nat × Instr) := [(0, .aload_n 0), (1, .iconst 0), (2, .putfield 35), (5, .aload_n 0), (6, .getfield 178), (9, .istore_n 2), (10, .aload_n 0), (11, .iload_n 1), (12, .putfield 178), (15, .iload_n 2), (16, .ireturn)]
theorem okX9_tray : mi_tb (pP.2.2.2.1 kX9_tray).2.1 tbX9_tray := mi_tb.of (by decide +kernel)
theorem enX9_tray {X : mi_X} {d : Nat} {avs : List Value} {h : mi_H} {mc ms : Nat} {Q : Option Value → mi_H → Prop} (hn : (lg_sl avs).length ≤ (pP.2.2.2.1 kX9_tray).2.2.1) (body : mi_W pP X kX9_tray d mc ms 0 (lv_args 0 avs) [] h Q) : mi_S pP X kX9_tray d avs h mc ms Q := mi_S.of pP_ok rfl (by decide +kernel) hn body
def tbX9_push : List (Nat × Instr) := [(0, .aload_n 0), (1, .iconst 0), (2, .putfield 35), (5, .aload_n 0), (6, .dup), (7, .getfield 181), (10, .iconst 1), (11, .iadd), (12, .putfield 181), (15, .aload_n 0), (16, .getfield 181), (19, .ireturn)]
theorem okX9_push : mi_tb (pP.2.2.2.1 kX9_push).2.1 tbX9_push := mi_tb.of (by decide +kernel)
theorem enX9_push {X : mi_X} {d : Nat} {avs : List Value} {h : mi_H} {mc ms : Nat} {Q : Option Value → mi_H → Prop} (hn : (lg_sl avs).length ≤ (pP.2.2.2.1 kX9_push).2.2.1) (body : mi_W pP X kX9_push d mc ms 0 (lv_args 0 avs) [] h Q) : mi_S pP X kX9_push d avs h mc ms Q := mi_S.of pP_ok rfl (by decide +kernel) hn body
def tbX9_seekFrom : List (Nat × Instr) := [(0, .iload_n 0), (1, .iload_n 1), (2, .if_icmp .ne 5), (5, .dconst 0), (6, .dreturn), (7, .ldc2_w 184), (10, .ldc2_w 186), (13, .iload_n 1), (14, .invokestatic 171), (17, .iload_n 0), (18, .invokestatic 171), (21, .isub), (22, .invokestatic 106), (25, .i2d), (26, .dmul), (27, .dadd), (28, .dstore_n 2), (29, .iload_n 1), (30, .invokestatic 174), (33, .iload_n 0), (34, .invokestatic 174), (37, .dsub), (38, .ldc2_w 188), (41, .dload_n 2), (42, .dmul), (43, .dsub), (44, .ldc2_w 169), (47, .drem), (48, .dstore 4), (50, .dload 4), (52, .dconst 0), (53, .dcmp .g), (54, .ifCond .ge 11), (57, .dload 4), (59, .ldc2_w 169), (62, .dadd), (63, .dstore 4), (65, .dload_n 2), (66, .dload 4), (68, .ldc2_w 188), (71, .ddiv), (72, .dadd), (73, .dreturn)]
theorem okX9_seekFrom : mi_tb (pP.2.2.2.1 kX9_seekFrom).2.1 tbX9_seekFrom := mi_tb.of (by decide +kernel)
theorem enX9_seekFrom {X : mi_X} {d : Nat} {avs : List Value} {h : mi_H} {mc ms : Nat} {Q : Option Value → mi_H → Prop} (hn : (lg_sl avs).length ≤ (pP.2.2.2.1 kX9_seekFrom).2.2.1) (body : mi_W pP X kX9_seekFrom d mc ms 0 (lv_args 0 avs) [] h Q) : mi_S pP X kX9_seekFrom d avs h mc ms Q := mi_S.of pP_ok rfl (by decide +kernel) hn body
def tbX9_readOf : List (Nat × Instr) := [(0, .iload_n 0), (1, .bipush 60), (3, .if_icmp .ge 7), (6, .fconst 1), (7, .goto 17), (10, .iload_n 0), (11, .sipush 140), (14, .if_icmp .ge 8), (17, .ldc 190), (19, .goto 5), (22, .ldc 191), (24, .fstore_n 1), (25, .ldc2_w 192), (28, .fload_n 1), (29, .f2d), (30, .ddiv), (31, .dreturn)]
theorem okX9_readOf : mi_tb (pP.2.2.2.1 kX9_readOf).2.1 tbX9_readOf := mi_tb.of (by decide +kernel)
theorem enX9_readOf {X : mi_X} {d : Nat} {avs : List Value} {h : mi_H} {mc ms : Nat} {Q : Option Value → mi_H → Prop} (hn : (lg_sl avs).length ≤ (pP.2.2.2.1 kX9_readOf).2.2.1) (body : mi_W pP X kX9_readOf d mc ms 0 (lv_args 0 avs) [] h Q) : mi_S pP X kX9_readOf d avs h mc ms Q := mi_S.of pP_ok rfl (by decide +kernel) hn body
def tbX9_behind : List (Nat × Instr) := [(0, .sipush 239), (3, .iload_n 0), (4, .iconst 1), (5, .iadd), (6, .invokestatic 194), (9, .ireturn)]
theorem okX9_behind : mi_tb (pP.2.2.2.1 kX9_behind).2.1 tbX9_behind := mi_tb.of (by decide +kernel)
theorem enX9_behind {X : mi_X} {d : Nat} {avs : List Value} {h : mi_H} {mc ms : Nat} {Q : Option Value → mi_H → Prop} (hn : (lg_sl avs).length ≤ (pP.2.2.2.1 kX9_behind).2.2.1) (body : mi_W pP X kX9_behind d mc ms 0 (lv_args 0 avs) [] h Q) : mi_S pP X kX9_behind d avs h mc ms Q := mi_S.of pP_ok rfl (by decide +kernel) hn body
def tbX9_read : List (Nat × Instr) := [(0, .aload_n 0), (1, .iload_n 1), (2, .invokestatic 166), (5, .iconst 1), (6, .invokevirtual 130), (9, .ifCond .ne 15), (12, .aload_n 0), (13, .aload_n 0), (14, .getfield 178), (17, .iconst 2), (18, .invokevirtual 38), (21, .ifCond .eq 5), (24, .iconst 0), (25, .ireturn), (26, .aload_n 0), (27, .dup), (28, .getfield 197), (31, .aload_n 0), (32, .getfield 201), (35, .iload_n 1), (36, .invokestatic 204), (39, .dadd), (40, .putfield 197), (43, .aload_n 0), (44, .dup), (45, .getfield 197), (48, .iload_n 1), (49, .invokestatic 208), (52, .dadd), (53, .putfield 197), (56, .aload_n 0), (57, .iload_n 1), (58, .invokestatic 211), (61, .putfield 201), (64, .aload_n 0), (65, .dup), (66, .getfield 214), (69, .iconst 1), (70, .iadd), (71, .putfield 214), (74, .aload_n 0), (75, .iload_n 1), (76, .invokevirtual 104), (79, .ireturn)]
theorem okX9_read : mi_tb (pP.2.2.2.1 kX9_read).2.1 tbX9_read := mi_tb.of (by decide +kernel)
theorem enX9_read {X : mi_X} {d : Nat} {avs : List Value} {h : mi_H} {mc ms : Nat} {Q : Option Value → mi_H → Prop} (hn : (lg_sl avs).length ≤ (pP.2.2.2.1 kX9_read).2.2.1) (body : mi_W pP X kX9_read d mc ms 0 (lv_args 0 avs) [] h Q) : mi_S pP X kX9_read d avs h mc ms Q := mi_S.of pP_ok rfl (by decide +kernel) hn body
def tbX9_seek : List (Nat × Instr) := [(0, .aload_n 0), (1, .iload_n 1), (2, .invokestatic 166), (5, .iconst 1), (6, .invokevirtual 130), (9, .ifCond .eq 7), (12, .dconst 0), (13, .goto 11), (16, .aload_n 0), (17, .getfield 201), (20, .iload_n 1), (21, .invokestatic 204), (24, .dreturn)]
theorem okX9_seek : mi_tb (pP.2.2.2.1 kX9_seek).2.1 tbX9_seek := mi_tb.of (by decide +kernel)
theorem enX9_seek {X : mi_X} {d : Nat} {avs : List Value} {h : mi_H} {mc ms : Nat} {Q : Option Value → mi_H → Prop} (hn : (lg_sl avs).length ≤ (pP.2.2.2.1 kX9_seek).2.2.1) (body : mi_W pP X kX9_seek d mc ms 0 (lv_args 0 avs) [] h Q) : mi_S pP X kX9_seek d avs h mc ms Q := mi_S.of pP_ok rfl (by decide +kernel) hn body
def tbX9_clock : List (Nat × Instr) := [(0, .aload_n 0), (1, .iconst 0), (2, .putfield 35), (5, .aload_n 0), (6, .getfield 197), (9, .dreturn)]
theorem okX9_clock : mi_tb (pP.2.2.2.1 kX9_clock).2.1 tbX9_clock := mi_tb.of (by decide +kernel)
theorem enX9_clock {X : mi_X} {d : Nat} {avs : List Value} {h : mi_H} {mc ms : Nat} {Q : Option Value → mi_H → Prop} (hn : (lg_sl avs).length ≤ (pP.2.2.2.1 kX9_clock).2.2.1) (body : mi_W pP X kX9_clock d mc ms 0 (lv_args 0 avs) [] h Q) : mi_S pP X kX9_clock d avs h mc ms Q := mi_S.of pP_ok rfl (by decide +kernel) hn body
def tbX9_angle : List (Nat × Instr) := [(0, .aload_n 0), (1, .iload_n 1), (2, .invokestatic 166), (5, .iconst 1), (6, .invokevirtual 130), (9, .ifCond .eq 7), (12, .dconst 0), (13, .goto 7), (16, .iload_n 1), (17, .invokestatic 174), (20, .dreturn)]
theorem okX9_angle : mi_tb (pP.2.2.2.1 kX9_angle).2.1 tbX9_angle := mi_tb.of (by decide +kernel)
theorem enX9_angle {X : mi_X} {d : Nat} {avs : List Value} {h : mi_H} {mc ms : Nat} {Q : Option Value → mi_H → Prop} (hn : (lg_sl avs).length ≤ (pP.2.2.2.1 kX9_angle).2.2.1) (body : mi_W pP X kX9_angle d mc ms 0 (lv_args 0 avs) [] h Q) : mi_S pP X kX9_angle d avs h mc ms Q := mi_S.of pP_ok rfl (by decide +kernel) hn body
def tbX9_toldOfSector : List (Nat × Instr) := [(0, .aload_n 0), (1, .getfield 11), (4, .iload_n 1), (5, .aaload), (6, .astore_n 3), (7, .iconst 0), (8, .istore 4), (10, .iconst 0), (11, .istore 5), (13, .iload 5), (15, .bipush 16), (17, .if_icmp .ge 34), (20, .aload_n 3), (21, .ifnull 30), (24, .iload 4), (26, .aload_n 3), (27, .iload 5), (29, .iaload), (30, .iconst (-1)), (31, .if_icmp .ne 7), (34, .iconst 1), (35, .goto 4), (38, .iconst 0), (39, .invokestatic 217), (42, .iadd), (43, .istore 4), (45, .iinc 5 1), (48, .goto (-35)), (51, .aload_n 3), (52, .invokestatic 221), (55, .astore 5), (57, .sipush 1000), (60, .iload_n 1), (61, .bipush 60), (63, .idiv), (64, .iconst 3), (65, .irem), (66, .imul), (67, .bipush 10), (69, .iload_n 1), (70, .iconst 5), (71, .idiv), (72, .bipush 12), (74, .irem), (75, .imul), (76, .iadd), (77, .iload_n 1), (78, .iconst 5), (79, .irem), (80, .iadd), (81, .istore 6), (83, .bipush 9), (85, .newarray .int), (87, .dup), (88, .iconst 0), (89, .aload_n 0), (90, .getfield 25), (93, .iload_n 1), (94, .iaload), (95, .iastore), (96, .dup), (97, .iconst 1), (98, .aload_n 3), (99, .ifnull 7), (102, .iconst 1), (103, .goto 4), (106, .iconst 0), (107, .invokestatic 217), (110, .iastore), (111, .dup), (112, .iconst 2), (113, .iload 4), (115, .iastore), (116, .dup), (117, .iconst 3), (118, .aload_n 0), (119, .iload_n 1), (120, .invokevirtual 104), (123, .iastore), (124, .dup), (125, .iconst 4), (126, .aload 5), (128, .iconst 2), (129, .iaload), (130, .iastore), (131, .dup), (132, .iconst 5), (133, .aload 5), (135, .iconst 1), (136, .iaload), (137, .iastore), (138, .dup), (139, .bipush 6), (141, .aload 5), (143, .iconst 3), (144, .iaload), (145, .iastore), (146, .dup), (147, .bipush 7), (149, .iload_n 1), (150, .invokestatic 171), (153, .iastore), (154, .dup), (155, .bipush 8), (157, .iload 6), (159, .iastore), (160, .astore 7), (162, .aload 7), (164, .iload_n 2), (165, .iaload), (166, .ireturn)]
theorem okX9_toldOfSector : mi_tb (pP.2.2.2.1 kX9_toldOfSector).2.1 tbX9_toldOfSector := mi_tb.of (by decide +kernel)
theorem enX9_toldOfSector {X : mi_X} {d : Nat} {avs : List Value} {h : mi_H} {mc ms : Nat} {Q : Option Value → mi_H → Prop} (hn : (lg_sl avs).length ≤ (pP.2.2.2.1 kX9_toldOfSector).2.2.1) (body : mi_W pP X kX9_toldOfSector d mc ms 0 (lv_args 0 avs) [] h Q) : mi_S pP X kX9_toldOfSector d avs h mc ms Q := mi_S.of pP_ok rfl (by decide +kernel) hn body
def tbX9_ofSector : List (Nat × Instr) := [(0, .aload_n 0), (1, .iload_n 1), (2, .invokestatic 166), (5, .iconst 1), (6, .invokevirtual 130), (9, .ifCond .ne 26), (12, .aload_n 0), (13, .iload_n 2), (14, .iconst 0), (15, .bipush 8), (17, .invokestatic 46), (20, .ifCond .ne 7), (23, .iconst 1), (24, .goto 4), (27, .iconst 0), (28, .iconst 2), (29, .invokevirtual 38), (32, .ifCond .eq 7), (35, .iconst 0), (36, .goto 9), (39, .aload_n 0), (40, .iload_n 1), (41, .iload_n 2), (42, .invokevirtual 224), (45, .ireturn)]
theorem okX9_ofSector : mi_tb (pP.2.2.2.1 kX9_ofSector).2.1 tbX9_ofSector := mi_tb.of (by decide +kernel)
theorem enX9_ofSector {X : mi_X} {d : Nat} {avs : List Value} {h : mi_H} {mc ms : Nat} {Q : Option Value → mi_H → Prop} (hn : (lg_sl avs).length ≤ (pP.2.2.2.1 kX9_ofSector).2.2.1) (body : mi_W pP X kX9_ofSector d mc ms 0 (lv_args 0 avs) [] h Q) : mi_S pP X kX9_ofSector d avs h mc ms Q := mi_S.of pP_ok rfl (by decide +kernel) hn body
def tbX9_nibblesAt : List (Nat × Instr) := [(0, .iload_n 2), (1, .ifCond .eq 15), (4, .aload_n 0), (5, .getfield 11), (8, .iload_n 1), (9, .aaload), (10, .invokestatic 84), (13, .goto 9), (16, .aload_n 0), (17, .getfield 11), (20, .iload_n 1), (21, .aaload), (22, .astore_n 3), (23, .aload_n 3), (24, .ifnonnull 9), (27, .ldc2_w 227), (30, .goto 8), (33, .iload_n 1), (34, .aload_n 3), (35, .invokestatic 92), (38, .lreturn)]
theorem okX9_nibblesAt : mi_tb (pP.2.2.2.1 kX9_nibblesAt).2.1 tbX9_nibblesAt := mi_tb.of (by decide +kernel)
theorem enX9_nibblesAt {X : mi_X} {d : Nat} {avs : List Value} {h : mi_H} {mc ms : Nat} {Q : Option Value → mi_H → Prop} (hn : (lg_sl avs).length ≤ (pP.2.2.2.1 kX9_nibblesAt).2.2.1) (body : mi_W pP X kX9_nibblesAt d mc ms 0 (lv_args 0 avs) [] h Q) : mi_S pP X kX9_nibblesAt d avs h mc ms Q := mi_S.of pP_ok rfl (by decide +kernel) hn body
def tbX9_nibbles : List (Nat × Instr) := [(0, .aload_n 0), (1, .iload_n 1), (2, .invokestatic 166), (5, .iconst 1), (6, .invokevirtual 130), (9, .ifCond .eq 7), (12, .lconst 0), (13, .goto 9), (16, .aload_n 0), (17, .iload_n 1), (18, .iload_n 2), (19, .invokevirtual 229), (22, .lreturn)]
theorem okX9_nibbles : mi_tb (pP.2.2.2.1 kX9_nibbles).2.1 tbX9_nibbles := mi_tb.of (by decide +kernel)
theorem enX9_nibbles {X : mi_X} {d : Nat} {avs : List Value} {h : mi_H} {mc ms : Nat} {Q : Option Value → mi_H → Prop} (hn : (lg_sl avs).length ≤ (pP.2.2.2.1 kX9_nibbles).2.2.1) (body : mi_W pP X kX9_nibbles d mc ms 0 (lv_args 0 avs) [] h Q) : mi_S pP X kX9_nibbles d avs h mc ms Q := mi_S.of pP_ok rfl (by decide +kernel) hn body
def tbX9_place : List (Nat × Instr) := [(0, .aload_n 0), (1, .iload_n 1), (2, .invokestatic 166), (5, .ifCond .ne 13), (8, .iload_n 2), (9, .iconst 0), (10, .bipush 15), (12, .invokestatic 46), (15, .ifCond .ne 7), (18, .iconst 1), (19, .goto 4), (22, .iconst 0), (23, .iconst 1), (24, .invokevirtual 130), (27, .ifCond .eq 5), (30, .iconst 0), (31, .ireturn), (32, .aload_n 0), (33, .getfield 11), (36, .iload_n 1), (37, .aaload), (38, .ifnonnull 7), (41, .iconst (-1)), (42, .goto 11), (45, .aload_n 0), (46, .getfield 11), (49, .iload_n 1), (50, .aaload), (51, .iload_n 2), (52, .iaload), (53, .ireturn)]
theorem okX9_place : mi_tb (pP.2.2.2.1 kX9_place).2.1 tbX9_place := mi_tb.of (by decide +kernel)
theorem enX9_place {X : mi_X} {d : Nat} {avs : List Value} {h : mi_H} {mc ms : Nat} {Q : Option Value → mi_H → Prop} (hn : (lg_sl avs).length ≤ (pP.2.2.2.1 kX9_place).2.2.1) (body : mi_W pP X kX9_place d mc ms 0 (lv_args 0 avs) [] h Q) : mi_S pP X kX9_place d avs h mc ms Q := mi_S.of pP_ok rfl (by decide +kernel) hn body
def tbX9_toldOfTrack : List (Nat × Instr) := [(0, .aload_n 0), (1, .getfield 21), (4, .iload_n 1), (5, .invokevirtual 88), (8, .checkcast 9), (11, .astore_n 3), (12, .iconst 0), (13, .istore 4), (15, .iconst 0), (16, .istore 5), (18, .iload 5), (20, .aload_n 3), (21, .iconst 3), (22, .iaload), (23, .if_icmp .ge 27), (26, .iload 4), (28, .aload_n 0), (29, .aload_n 3), (30, .iconst 2), (31, .iaload), (32, .iload 5), (34, .iadd), (35, .invokevirtual 233), (38, .invokestatic 217), (41, .iadd), (42, .istore 4), (44, .iinc 5 1), (47, .goto (-29)), (50, .bipush 8), (52, .newarray .int), (54, .dup), (55, .iconst 0), (56, .aload_n 3), (57, .iconst 0), (58, .iaload), (59, .iastore), (60, .dup), (61, .iconst 1), (62, .aload_n 3), (63, .iconst 1), (64, .iaload), (65, .iastore), (66, .dup), (67, .iconst 2), (68, .aload_n 3), (69, .iconst 2), (70, .iaload), (71, .iastore), (72, .dup), (73, .iconst 3), (74, .aload_n 3), (75, .iconst 3), (76, .iaload), (77, .iastore), (78, .dup), (79, .iconst 4), (80, .aload_n 3), (81, .iconst 4), (82, .iaload), (83, .aload_n 3), (84, .iconst 5), (85, .iaload), (86, .isub), (87, .iastore), (88, .dup), (89, .iconst 5), (90, .aload_n 3), (91, .iconst 5), (92, .iaload), (93, .iastore), (94, .dup), (95, .bipush 6), (97, .aload_n 3), (98, .bipush 6), (100, .iaload), (101, .iastore), (102, .dup), (103, .bipush 7), (105, .iload 4), (107, .iastore), (108, .astore 5), (110, .aload 5), (112, .iload_n 2), (113, .iaload), (114, .ireturn)]
theorem okX9_toldOfTrack : mi_tb (pP.2.2.2.1 kX9_toldOfTrack).2.1 tbX9_toldOfTrack := mi_tb.of (by decide +kernel)
theorem enX9_toldOfTrack {X : mi_X} {d : Nat} {avs : List Value} {h : mi_H} {mc ms : Nat} {Q : Option Value → mi_H → Prop} (hn : (lg_sl avs).length ≤ (pP.2.2.2.1 kX9_toldOfTrack).2.2.1) (body : mi_W pP X kX9_toldOfTrack d mc ms 0 (lv_args 0 avs) [] h Q) : mi_S pP X kX9_toldOfTrack d avs h mc ms Q := mi_S.of pP_ok rfl (by decide +kernel) hn body
def tbX9_ofTrack : List (Nat × Instr) := [(0, .aload_n 0), (1, .aload_n 0), (2, .iload_n 1), (3, .invokevirtual 137), (6, .iconst 1), (7, .invokevirtual 130), (10, .ifCond .ne 26), (13, .aload_n 0), (14, .iload_n 2), (15, .iconst 0), (16, .bipush 7), (18, .invokestatic 46), (21, .ifCond .ne 7), (24, .iconst 1), (25, .goto 4), (28, .iconst 0), (29, .iconst 2), (30, .invokevirtual 38), (33, .ifCond .eq 7), (36, .iconst 0), (37, .goto 9), (40, .aload_n 0), (41, .iload_n 1), (42, .iload_n 2), (43, .invokevirtual 236), (46, .ireturn)]
theorem okX9_ofTrack : mi_tb (pP.2.2.2.1 kX9_ofTrack).2.1 tbX9_ofTrack := mi_tb.of (by decide +kernel)
theorem enX9_ofTrack {X : mi_X} {d : Nat} {avs : List Value} {h : mi_H} {mc ms : Nat} {Q : Option Value → mi_H → Prop} (hn : (lg_sl avs).length ≤ (pP.2.2.2.1 kX9_ofTrack).2.2.1) (body : mi_W pP X kX9_ofTrack d mc ms 0 (lv_args 0 avs) [] h Q) : mi_S pP X kX9_ofTrack d avs h mc ms Q := mi_S.of pP_ok rfl (by decide +kernel) hn body
def tbX9_toldOfFile : List (Nat × Instr) := [(0, .aconst_null), (1, .astore 4), (3, .aload_n 0), (4, .getfield 32), (7, .invokevirtual 150), (10, .astore 5), (12, .aload 5), (14, .invokeinterface 154 1), (19, .ifCond .eq 54), (22, .aload 5), (24, .invokeinterface 160 1), (29, .checkcast 9), (32, .astore 6), (34, .aload 6), (36, .iconst 0), (37, .iaload), (38, .iload_n 1), (39, .if_icmp .ne 31), (42, .aload 6), (44, .iconst 1), (45, .iaload), (46, .iload_n 2), (47, .if_icmp .gt 23), (50, .aload 4), (52, .ifnull 14), (55, .aload 6), (57, .iconst 1), (58, .iaload), (59, .aload 4), (61, .iconst 1), (62, .iaload), (63, .if_icmp .lt 7), (66, .aload 6), (68, .astore 4), (70, .goto (-58)), (73, .aload 4), (75, .ifnonnull 5), (78, .iconst (-1)), (79, .ireturn), (80, .iconst 0), (81, .istore 5), (83, .iconst 0), (84, .istore 6), (86, .iload 6), (88, .aload 4), (90, .iconst 3), (91, .iaload), (92, .if_icmp .ge 28), (95, .iload 5), (97, .aload_n 0), (98, .aload 4), (100, .iconst 2), (101, .iaload), (102, .iload 6), (104, .iadd), (105, .invokevirtual 233), (108, .invokestatic 217), (111, .iadd), (112, .istore 5), (114, .iinc 6 1), (117, .goto (-31)), (120, .iload_n 3), (121, .ifCond .ne 10), (124, .aload 4), (126, .iconst 2), (127, .iaload), (128, .goto 17), (131, .iload_n 3), (132, .iconst 1), (133, .if_icmp .ne 10), (136, .aload 4), (138, .iconst 3), (139, .iaload), (140, .goto 5), (143, .iload 5), (145, .ireturn)]
theorem okX9_toldOfFile : mi_tb (pP.2.2.2.1 kX9_toldOfFile).2.1 tbX9_toldOfFile := mi_tb.of (by decide +kernel)
theorem enX9_toldOfFile {X : mi_X} {d : Nat} {avs : List Value} {h : mi_H} {mc ms : Nat} {Q : Option Value → mi_H → Prop} (hn : (lg_sl avs).length ≤ (pP.2.2.2.1 kX9_toldOfFile).2.2.1) (body : mi_W pP X kX9_toldOfFile d mc ms 0 (lv_args 0 avs) [] h Q) : mi_S pP X kX9_toldOfFile d avs h mc ms Q := mi_S.of pP_ok rfl (by decide +kernel) hn body
def tbX9_ofFile : List (Nat × Instr) := [(0, .aload_n 0), (1, .aload_n 0), (2, .iload_n 1), (3, .invokevirtual 163), (6, .ifCond .ne 17), (9, .iload_n 2), (10, .iconst 0), (11, .aload_n 0), (12, .getfield 124), (15, .iconst 1), (16, .isub), (17, .invokestatic 46), (20, .ifCond .ne 7), (23, .iconst 1), (24, .goto 4), (27, .iconst 0), (28, .iconst 1), (29, .invokevirtual 130), (32, .ifCond .ne 25), (35, .aload_n 0), (36, .iload_n 3), (37, .iconst 0), (38, .iconst 2), (39, .invokestatic 46), (42, .ifCond .ne 7), (45, .iconst 1), (46, .goto 4), (49, .iconst 0), (50, .iconst 2), (51, .invokevirtual 38), (54, .ifCond .eq 7), (57, .iconst 0), (58, .goto 10), (61, .aload_n 0), (62, .iload_n 1), (63, .iload_n 2), (64, .iload_n 3), (65, .invokevirtual 239), (68, .ireturn)]
theorem okX9_ofFile : mi_tb (pP.2.2.2.1 kX9_ofFile).2.1 tbX9_ofFile := mi_tb.of (by decide +kernel)
theorem enX9_ofFile {X : mi_X} {d : Nat} {avs : List Value} {h : mi_H} {mc ms : Nat} {Q : Option Value → mi_H → Prop} (hn : (lg_sl avs).length ≤ (pP.2.2.2.1 kX9_ofFile).2.2.1) (body : mi_W pP X kX9_ofFile d mc ms 0 (lv_args 0 avs) [] h Q) : mi_S pP X kX9_ofFile d avs h mc ms Q := mi_S.of pP_ok rfl (by decide +kernel) hn body
def tbX9_sample : List (Nat × Instr) := [(0, .aload_n 0), (1, .iload_n 1), (2, .iconst 1), (3, .invokevirtual 229), (6, .lstore_n 2), (7, .iconst 0), (8, .istore 4), (10, .iconst 0), (11, .istore 5), (13, .iload 5), (15, .bipush 9), (17, .if_icmp .ge 25), (20, .iload 4), (22, .lload_n 2), (23, .iconst 4), (24, .iload 5), (26, .imul), (27, .lshr), (28, .ldc2_w 54), (31, .land), (32, .l2i), (33, .iadd), (34, .istore 4), (36, .iinc 5 1), (39, .goto (-26)), (42, .iload 4), (44, .bipush 67), (46, .isub), (47, .i2f), (48, .fconst 2), (49, .fdiv), (50, .freturn)]
theorem okX9_sample : mi_tb (pP.2.2.2.1 kX9_sample).2.1 tbX9_sample := mi_tb.of (by decide +kernel)
theorem enX9_sample {X : mi_X} {d : Nat} {avs : List Value} {h : mi_H} {mc ms : Nat} {Q : Option Value → mi_H → Prop} (hn : (lg_sl avs).length ≤ (pP.2.2.2.1 kX9_sample).2.2.1) (body : mi_W pP X kX9_sample d mc ms 0 (lv_args 0 avs) [] h Q) : mi_S pP X kX9_sample d avs h mc ms Q := mi_S.of pP_ok rfl (by decide +kernel) hn body
def tbX9_isHeard : List (Nat × Instr) := [(0, .iload_n 1), (1, .invokestatic 166), (4, .ifCond .ne 25), (7, .aload_n 0), (8, .getfield 25), (11, .iload_n 1), (12, .iaload), (13, .iload_n 2), (14, .if_icmp .ne 15), (17, .aload_n 0), (18, .iload_n 1), (19, .invokevirtual 233), (22, .ifCond .eq 7), (25, .iconst 1), (26, .goto 4), (29, .iconst 0), (30, .ireturn)]
theorem okX9_isHeard : mi_tb (pP.2.2.2.1 kX9_isHeard).2.1 tbX9_isHeard := mi_tb.of (by decide +kernel)
theorem enX9_isHeard {X : mi_X} {d : Nat} {avs : List Value} {h : mi_H} {mc ms : Nat} {Q : Option Value → mi_H → Prop} (hn : (lg_sl avs).length ≤ (pP.2.2.2.1 kX9_isHeard).2.2.1) (body : mi_W pP X kX9_isHeard d mc ms 0 (lv_args 0 avs) [] h Q) : mi_S pP X kX9_isHeard d avs h mc ms Q := mi_S.of pP_ok rfl (by decide +kernel) hn body
def tbX9_play : List (Nat × Instr) := [(0, .aload_n 0), (1, .iload_n 1), (2, .invokestatic 166), (5, .iconst 1), (6, .invokevirtual 130), (9, .ifCond .ne 48), (12, .aload_n 0), (13, .aload_n 0), (14, .getfield 25), (17, .iload_n 1), (18, .iaload), (19, .iconst (-1)), (20, .if_icmp .eq 25), (23, .aload_n 0), (24, .getfield 21), (27, .aload_n 0), (28, .getfield 25), (31, .iload_n 1), (32, .iaload), (33, .invokevirtual 88), (36, .checkcast 9), (39, .iconst 1), (40, .iaload), (41, .iconst 1), (42, .if_icmp .ne 7), (45, .iconst 1), (46, .goto 4), (49, .iconst 0), (50, .iconst 2), (51, .invokevirtual 38), (54, .ifCond .eq 5), (57, .dconst 0), (58, .dreturn), (59, .aload_n 0), (60, .getfield 25), (63, .iload_n 1), (64, .iaload), (65, .istore_n 2), (66, .aload_n 0), (67, .iload_n 1), (68, .invokevirtual 233), (71, .ifCond .eq 10), (74, .aload_n 0), (75, .iload_n 1), (76, .invokevirtual 243), (79, .f2d), (80, .dreturn), (81, .aload_n 0), (82, .iload_n 1), (83, .iconst 1), (84, .isub), (85, .iload_n 2), (86, .invokevirtual 247), (89, .istore_n 3), (90, .aload_n 0), (91, .iload_n 1), (92, .iconst 1), (93, .iadd), (94, .iload_n 2), (95, .invokevirtual 247), (98, .istore 4), (100, .iload_n 3), (101, .ifCond .eq 28), (104, .iload 4), (106, .ifCond .eq 23), (109, .aload_n 0), (110, .iload_n 1), (111, .iconst 1), (112, .isub), (113, .invokevirtual 243), (116, .aload_n 0), (117, .iload_n 1), (118, .iconst 1), (119, .iadd), (120, .invokevirtual 243), (123, .fadd), (124, .ldc 251), (126, .fmul), (127, .f2d), (128, .dreturn), (129, .iload_n 3), (130, .ifCond .eq 17), (133, .ldc 252), (135, .aload_n 0), (136, .iload_n 1), (137, .iconst 1), (138, .isub), (139, .invokevirtual 243), (142, .fmul), (143, .f2d), (144, .goto 23), (147, .iload 4), (149, .ifCond .eq 17), (152, .ldc 252), (154, .aload_n 0), (155, .iload_n 1), (156, .iconst 1), (157, .iadd), (158, .invokevirtual 243), (161, .fmul), (162, .f2d), (163, .goto 4), (166, .dconst 0), (167, .dreturn)]
theorem okX9_play : mi_tb (pP.2.2.2.1 kX9_play).2.1 tbX9_play := mi_tb.of (by decide +kernel)
theorem enX9_play {X : mi_X} {d : Nat} {avs : List Value} {h : mi_H} {mc ms : Nat} {Q : Option Value → mi_H → Prop} (hn : (lg_sl avs).length ≤ (pP.2.2.2.1 kX9_play).2.2.1) (body : mi_W pP X kX9_play d mc ms 0 (lv_args 0 avs) [] h Q) : mi_S pP X kX9_play d avs h mc ms Q := mi_S.of pP_ok rfl (by decide +kernel) hn body
def tbX9_told : List (Nat × Instr) := [(0, .iconst 3), (1, .newarray .int), (3, .astore_n 2), (4, .iconst 0), (5, .istore_n 3), (6, .iconst 0), (7, .istore 4), (9, .iload 4), (11, .sipush 240), (14, .if_icmp .ge 44), (17, .iload_n 1), (18, .iconst 4), (19, .bipush 7), (21, .invokestatic 46), (24, .ifCond .eq 34), (27, .aload_n 0), (28, .getfield 11), (31, .iload 4), (33, .aaload), (34, .ifnull 18), (37, .aload_n 2), (38, .aload_n 0), (39, .iload 4), (41, .invokevirtual 104), (44, .dup2), (45, .iaload), (46, .iconst 1), (47, .iadd), (48, .iastore), (49, .iinc 3 1), (52, .iinc 4 1), (55, .goto (-46)), (58, .bipush 13), (60, .newarray .int), (62, .dup), (63, .iconst 0), (64, .aload_n 0), (65, .getfield 124), (68, .iastore), (69, .dup), (70, .iconst 1), (71, .aload_n 0), (72, .getfield 21), (75, .invokevirtual 42), (78, .iastore), (79, .dup), (80, .iconst 2), (81, .aload_n 0), (82, .getfield 127), (85, .iastore), (86, .dup), (87, .iconst 3), (88, .aload_n 0), (89, .getfield 28), (92, .iastore), (93, .dup), (94, .iconst 4), (95, .iload_n 3), (96, .iastore), (97, .dup), (98, .iconst 5), (99, .aload_n 2), (100, .iconst 0), (101, .iaload), (102, .iastore), (103, .dup), (104, .bipush 6), (106, .aload_n 2), (107, .iconst 1), (108, .iaload), (109, .iastore), (110, .dup), (111, .bipush 7), (113, .aload_n 2), (114, .iconst 2), (115, .iaload), (116, .iastore), (117, .dup), (118, .bipush 8), (120, .aload_n 0), (121, .getfield 201), (124, .iastore), (125, .dup), (126, .bipush 9), (128, .aload_n 0), (129, .getfield 214), (132, .iastore), (133, .dup), (134, .bipush 10), (136, .aload_n 0), (137, .getfield 120), (140, .invokestatic 217), (143, .iastore), (144, .dup), (145, .bipush 11), (147, .aload_n 0), (148, .getfield 181), (151, .iastore), (152, .dup), (153, .bipush 12), (155, .aload_n 0), (156, .getfield 178), (159, .invokestatic 217), (162, .iastore), (163, .astore 4), (165, .aload 4), (167, .iload_n 1), (168, .iaload), (169, .ireturn)]
theorem okX9_told : mi_tb (pP.2.2.2.1 kX9_told).2.1 tbX9_told := mi_tb.of (by decide +kernel)
theorem enX9_told {X : mi_X} {d : Nat} {avs : List Value} {h : mi_H} {mc ms : Nat} {Q : Option Value → mi_H → Prop} (hn : (lg_sl avs).length ≤ (pP.2.2.2.1 kX9_told).2.2.1) (body : mi_W pP X kX9_told d mc ms 0 (lv_args 0 avs) [] h Q) : mi_S pP X kX9_told d avs h mc ms Q := mi_S.of pP_ok rfl (by decide +kernel) hn body
def tbX9_many : List (Nat × Instr) := [(0, .aload_n 0), (1, .iload_n 1), (2, .iconst 0), (3, .bipush 12), (5, .invokestatic 46), (8, .ifCond .ne 7), (11, .iconst 1), (12, .goto 4), (15, .iconst 0), (16, .iconst 1), (17, .invokevirtual 130), (20, .ifCond .eq 7), (23, .iconst 0), (24, .goto 8), (27, .aload_n 0), (28, .iload_n 1), (29, .invokevirtual 253), (32, .ireturn)]
theorem okX9_many : mi_tb (pP.2.2.2.1 kX9_many).2.1 tbX9_many := mi_tb.of (by decide +kernel)
theorem enX9_many {X : mi_X} {d : Nat} {avs : List Value} {h : mi_H} {mc ms : Nat} {Q : Option Value → mi_H → Prop} (hn : (lg_sl avs).length ≤ (pP.2.2.2.1 kX9_many).2.2.1) (body : mi_W pP X kX9_many d mc ms 0 (lv_args 0 avs) [] h Q) : mi_S pP X kX9_many d avs h mc ms Q := mi_S.of pP_ok rfl (by decide +kernel) hn body
def tbX9_wouldTake : List (Nat × Instr) := [(0, .aload_n 0), (1, .iload_n 1), (2, .invokestatic 166), (5, .iconst 1), (6, .invokevirtual 130), (9, .ifCond .ne 26), (12, .aload_n 0), (13, .iload_n 2), (14, .iconst 1), (15, .bipush 40), (17, .invokestatic 46), (20, .ifCond .ne 7), (23, .iconst 1), (24, .goto 4), (27, .iconst 0), (28, .iconst 2), (29, .invokevirtual 38), (32, .ifCond .eq 5), (35, .dconst 0), (36, .dreturn), (37, .aload_n 0), (38, .getfield 197), (41, .dstore_n 3), (42, .aload_n 0), (43, .getfield 201), (46, .istore 5), (48, .iload_n 1), (49, .istore 6), (51, .iload 6), (53, .sipush 240), (56, .iload_n 1), (57, .iload_n 2), (58, .iadd), (59, .invokestatic 194), (62, .if_icmp .ge 34), (65, .dload_n 3), (66, .iload 5), (68, .iload 6), (70, .invokestatic 204), (73, .dadd), (74, .dstore_n 3), (75, .dload_n 3), (76, .iload 6), (78, .invokestatic 208), (81, .dadd), (82, .dstore_n 3), (83, .iload 6), (85, .invokestatic 211), (88, .istore 5), (90, .iinc 6 1), (93, .goto (-42)), (96, .dload_n 3), (97, .aload_n 0), (98, .getfield 197), (101, .dsub), (102, .dreturn)]
theorem okX9_wouldTake : mi_tb (pP.2.2.2.1 kX9_wouldTake).2.1 tbX9_wouldTake := mi_tb.of (by decide +kernel)
theorem enX9_wouldTake {X : mi_X} {d : Nat} {avs : List Value} {h : mi_H} {mc ms : Nat} {Q : Option Value → mi_H → Prop} (hn : (lg_sl avs).length ≤ (pP.2.2.2.1 kX9_wouldTake).2.2.1) (body : mi_W pP X kX9_wouldTake d mc ms 0 (lv_args 0 avs) [] h Q) : mi_S pP X kX9_wouldTake d avs h mc ms Q := mi_S.of pP_ok rfl (by decide +kernel) hn body
def tbX9_wouldMend : List (Nat × Instr) := [(0, .aload_n 0), (1, .iload_n 1), (2, .invokestatic 166), (5, .iconst 1), (6, .invokevirtual 130), (9, .ifCond .ne 27), (12, .aload_n 0), (13, .iload_n 2), (14, .iconst 0), (15, .ldc_w 256), (18, .invokestatic 46), (21, .ifCond .ne 7), (24, .iconst 1), (25, .goto 4), (28, .iconst 0), (29, .iconst 2), (30, .invokevirtual 38), (33, .ifCond .eq 5), (36, .iconst 0), (37, .ireturn), (38, .aload_n 0), (39, .getfield 11), (42, .iload_n 1), (43, .aaload), (44, .ifnonnull 5), (47, .iconst 2), (48, .ireturn), (49, .bipush 16), (51, .newarray .int), (53, .astore_n 3), (54, .iconst 0), (55, .istore 4), (57, .iload 4), (59, .bipush 16), (61, .if_icmp .ge 36), (64, .aload_n 3), (65, .iload 4), (67, .iload_n 2), (68, .iload 4), (70, .ishr), (71, .iconst 1), (72, .iand), (73, .iconst 1), (74, .if_icmp .ne 7), (77, .iconst (-1)), (78, .goto 12), (81, .aload_n 0), (82, .getfield 11), (85, .iload_n 1), (86, .aaload), (87, .iload 4), (89, .iaload), (90, .iastore), (91, .iinc 4 1), (94, .goto (-37)), (97, .aload_n 0), (98, .iload_n 1), (99, .aload_n 3), (100, .invokevirtual 100), (103, .ireturn)]
theorem okX9_wouldMend : mi_tb (pP.2.2.2.1 kX9_wouldMend).2.1 tbX9_wouldMend := mi_tb.of (by decide +kernel)
theorem enX9_wouldMend {X : mi_X} {d : Nat} {avs : List Value} {h : mi_H} {mc ms : Nat} {Q : Option Value → mi_H → Prop} (hn : (lg_sl avs).length ≤ (pP.2.2.2.1 kX9_wouldMend).2.2.1) (body : mi_W pP X kX9_wouldMend d mc ms 0 (lv_args 0 avs) [] h Q) : mi_S pP X kX9_wouldMend d avs h mc ms Q := mi_S.of pP_ok rfl (by decide +kernel) hn body
def tbX9_add : List (Nat × Instr) := [(0, .lload_n 0), (1, .ldc2_w 257), (4, .lmul), (5, .lload_n 2), (6, .ladd), (7, .lreturn)]
theorem okX9_add : mi_tb (pP.2.2.2.1 kX9_add).2.1 tbX9_add := mi_tb.of (by decide +kernel)
theorem enX9_add {X : mi_X} {d : Nat} {avs : List Value} {h : mi_H} {mc ms : Nat} {Q : Option Value → mi_H → Prop} (hn : (lg_sl avs).length ≤ (pP.2.2.2.1 kX9_add).2.2.1) (body : mi_W pP X kX9_add d mc ms 0 (lv_args 0 avs) [] h Q) : mi_S pP X kX9_add d avs h mc ms Q := mi_S.of pP_ok rfl (by decide +kernel) hn body
def tbX9_digest : List (Nat × Instr) := [(0, .aload_n 0), (1, .iconst 0), (2, .putfield 35), (5, .ldc2_w 259), (8, .lstore_n 1), (9, .iconst 0), (10, .istore_n 3), (11, .iload_n 3), (12, .bipush 13), (14, .if_icmp .ge 20), (17, .lload_n 1), (18, .aload_n 0), (19, .iload_n 3), (20, .invokevirtual 253), (23, .i2l), (24, .invokestatic 261), (27, .lstore_n 1), (28, .iinc 3 1), (31, .goto (-20)), (34, .iconst 0), (35, .istore_n 3), (36, .iload_n 3), (37, .aload_n 0), (38, .getfield 21), (41, .invokevirtual 42), (44, .if_icmp .ge 38), (47, .iconst 0), (48, .istore 4), (50, .iload 4), (52, .bipush 8), (54, .if_icmp .ge 22), (57, .lload_n 1), (58, .aload_n 0), (59, .iload_n 3), (60, .iload 4), (62, .invokevirtual 236), (65, .i2l), (66, .invokestatic 261), (69, .lstore_n 1), (70, .iinc 4 1), (73, .goto (-23)), (76, .iinc 3 1), (79, .goto (-43)), (82, .iconst 0), (83, .istore_n 3), (84, .iload_n 3), (85, .sipush 240), (88, .if_icmp .ge 61), (91, .aload_n 0), (92, .getfield 11), (95, .iload_n 3), (96, .aaload), (97, .ifnonnull 6), (100, .goto 43), (103, .iconst 2), (104, .istore 4), (106, .iload 4), (108, .bipush 7), (110, .if_icmp .ge 22), (113, .lload_n 1), (114, .aload_n 0), (115, .iload_n 3), (116, .iload 4), (118, .invokevirtual 224), (121, .i2l), (122, .invokestatic 261), (125, .lstore_n 1), (126, .iinc 4 1), (129, .goto (-23)), (132, .lload_n 1), (133, .aload_n 0), (134, .iload_n 3), (135, .iconst 1), (136, .invokevirtual 229), (139, .invokestatic 261), (142, .lstore_n 1), (143, .iinc 3 1), (146, .goto (-62)), (149, .iconst 0), (150, .istore_n 3), (151, .iload_n 3), (152, .bipush 10), (154, .if_icmp .ge 57), (157, .iconst 0), (158, .istore 4), (160, .iload 4), (162, .aload_n 0), (163, .getfield 124), (166, .if_icmp .ge 39), (169, .iconst 0), (170, .istore 5), (172, .iload 5), (174, .iconst 3), (175, .if_icmp .ge 24), (178, .lload_n 1), (179, .aload_n 0), (180, .iload_n 3), (181, .iload 4), (183, .iload 5), (185, .invokevirtual 239), (188, .i2l), (189, .invokestatic 261), (192, .lstore_n 1), (193, .iinc 5 1), (196, .goto (-24)), (199, .iinc 4 1), (202, .goto (-42)), (205, .iinc 3 1), (208, .goto (-57)), (211, .lload_n 1), (212, .aload_n 0), (213, .getfield 197), (216, .d2l), (217, .invokestatic 261), (220, .lreturn)]
theorem okX9_digest : mi_tb (pP.2.2.2.1 kX9_digest).2.1 tbX9_digest := mi_tb.of (by decide +kernel)
theorem enX9_digest {X : mi_X} {d : Nat} {avs : List Value} {h : mi_H} {mc ms : Nat} {Q : Option Value → mi_H → Prop} (hn : (lg_sl avs).length ≤ (pP.2.2.2.1 kX9_digest).2.2.1) (body : mi_W pP X kX9_digest d mc ms 0 (lv_args 0 avs) [] h Q) : mi_S pP X kX9_digest d avs h mc ms Q := mi_S.of pP_ok rfl (by decide +kernel) hn body
def tbJ6_bitCount_0f7a4 : List (Nat × Instr) := [(0, .iload_n 0), (1, .iload_n 0), (2, .iconst 1), (3, .iushr), (4, .ldc_w 265), (7, .iand), (8, .isub), (9, .istore_n 0), (10, .iload_n 0), (11, .ldc_w 266), (14, .iand), (15, .iload_n 0), (16, .iconst 2), (17, .iushr), (18, .ldc_w 266), (21, .iand), (22, .iadd), (23, .istore_n 0), (24, .iload_n 0), (25, .iload_n 0), (26, .iconst 4), (27, .iushr), (28, .iadd), (29, .ldc_w 267), (32, .iand), (33, .istore_n 0), (34, .iload_n 0), (35, .iload_n 0), (36, .bipush 8), (38, .iushr), (39, .iadd), (40, .istore_n 0), (41, .iload_n 0), (42, .iload_n 0), (43, .bipush 16), (45, .iushr), (46, .iadd), (47, .istore_n 0), (48, .iload_n 0), (49, .bipush 63), (51, .iand), (52, .ireturn)]
theorem okJ6_bitCount_0f7a4 : mi_tb (pP.2.2.2.1 kJ6_bitCount_0f7a4).2.1 tbJ6_bitCount_0f7a4 := mi_tb.of (by decide +kernel)
theorem enJ6_bitCount_0f7a4 {X : mi_X} {d : Nat} {avs : List Value} {h : mi_H} {mc ms : Nat} {Q : Option Value → mi_H → Prop} (hn : (lg_sl avs).length ≤ (pP.2.2.2.1 kJ6_bitCount_0f7a4).2.2.1) (body : mi_W pP X kJ6_bitCount_0f7a4 d mc ms 0 (lv_args 0 avs) [] h Q) : mi_S pP X kJ6_bitCount_0f7a4 d avs h mc ms Q := mi_S.of pP_ok rfl (by decide +kernel) hn body
def tbJ6_numberOfTrailingZeros_0f7a4 : List (Nat × Instr) := [(0, .iload_n 0), (1, .iconst (-1)), (2, .ixor), (3, .iload_n 0), (4, .iconst 1), (5, .isub), (6, .iand), (7, .istore_n 0), (8, .iload_n 0), (9, .ifCond .gt 8), (12, .iload_n 0), (13, .bipush 32), (15, .iand), (16, .ireturn), (17, .iconst 1), (18, .istore_n 1), (19, .iload_n 0), (20, .ldc_w 264), (23, .if_icmp .le 11), (26, .iinc 1 16), (29, .iload_n 0), (30, .bipush 16), (32, .iushr), (33, .istore_n 0), (34, .iload_n 0), (35, .sipush 256), (38, .if_icmp .le 11), (41, .iinc 1 8), (44, .iload_n 0), (45, .bipush 8), (47, .iushr), (48, .istore_n 0), (49, .iload_n 0), (50, .bipush 16), (52, .if_icmp .le 10), (55, .iinc 1 4), (58, .iload_n 0), (59, .iconst 4), (60, .iushr), (61, .istore_n 0), (62, .iload_n 0), (63, .iconst 4), (64, .if_icmp .le 10), (67, .iinc 1 2), (70, .iload_n 0), (71, .iconst 2), (72, .iushr), (73, .istore_n 0), (74, .iload_n 1), (75, .iload_n 0), (76, .iconst 1), (77, .iushr), (78, .iadd), (79, .ireturn)]
theorem okJ6_numberOfTrailingZeros_0f7a4 : mi_tb (pP.2.2.2.1 kJ6_numberOfTrailingZeros_0f7a4).2.1 tbJ6_numberOfTrailingZeros_0f7a4 := mi_tb.of (by decide +kernel)
theorem enJ6_numberOfTrailingZeros_0f7a4 {X : mi_X} {d : Nat} {avs : List Value} {h : mi_H} {mc ms : Nat} {Q : Option Value → mi_H → Prop} (hn : (lg_sl avs).length ≤ (pP.2.2.2.1 kJ6_numberOfTrailingZeros_0f7a4).2.2.1) (body : mi_W pP X kJ6_numberOfTrailingZeros_0f7a4 d mc ms 0 (lv_args 0 avs) [] h Q) : mi_S pP X kJ6_numberOfTrailingZeros_0f7a4 d avs h mc ms Q := mi_S.of pP_ok rfl (by decide +kernel) hn body
def tbJ9_abs_0f7a4 : List (Nat × Instr) := [(0, .iload_n 0), (1, .ifCond .ge 8), (4, .iload_n 0), (5, .ineg), (6, .goto 4), (9, .iload_n 0), (10, .ireturn)]
theorem okJ9_abs_0f7a4 : mi_tb (pP.2.2.2.1 kJ9_abs_0f7a4).2.1 tbJ9_abs_0f7a4 := mi_tb.of (by decide +kernel)
def tbJ9_max_7cf53 : List (Nat × Instr) := [(0, .iload_n 0), (1, .iload_n 1), (2, .if_icmp .lt 7), (5, .iload_n 0), (6, .goto 4), (9, .iload_n 1), (10, .ireturn)]
theorem okJ9_max_7cf53 : mi_tb (pP.2.2.2.1 kJ9_max_7cf53).2.1 tbJ9_max_7cf53 := mi_tb.of (by decide +kernel)
def tbJ9_min_7cf53 : List (Nat × Instr) := [(0, .iload_n 0), (1, .iload_n 1), (2, .if_icmp .gt 7), (5, .iload_n 0), (6, .goto 4), (9, .iload_n 1), (10, .ireturn)]
theorem okJ9_min_7cf53 : mi_tb (pP.2.2.2.1 kJ9_min_7cf53).2.1 tbJ9_min_7cf53 := mi_tb.of (by decide +kernel)
def tbJxa1e45_init_da8c8 : List (Nat × Instr) := [(0, .aload_n 0), (1, .invokespecial 1), (4, .return_)]
theorem okJxa1e45_init_da8c8 : mi_tb (pP.2.2.2.1 kJxa1e45_init_da8c8).2.1 tbJxa1e45_init_da8c8 := mi_tb.of (by decide +kernel)
theorem enJxa1e45_init_da8c8 {X : mi_X} {d : Nat} {avs : List Value} {h : mi_H} {mc ms : Nat} {Q : Option Value → mi_H → Prop} (hn : (lg_sl avs).length ≤ (pP.2.2.2.1 kJxa1e45_init_da8c8).2.2.1) (body : mi_W pP X kJxa1e45_init_da8c8 d mc ms 0 (lv_args 0 avs) [] h Q) : mi_S pP X kJxa1e45_init_da8c8 d avs h mc ms Q := mi_S.of pP_ok rfl (by decide +kernel) hn body
def tbJxc12de_init_da8c8 : List (Nat × Instr) := [(0, .aload_n 0), (1, .invokespecial 1), (4, .aload_n 0), (5, .iconst 0), (6, .putfield 7), (9, .return_)]
theorem okJxc12de_init_da8c8 : mi_tb (pP.2.2.2.1 kJxc12de_init_da8c8).2.1 tbJxc12de_init_da8c8 := mi_tb.of (by decide +kernel)
theorem enJxc12de_init_da8c8 {X : mi_X} {d : Nat} {avs : List Value} {h : mi_H} {mc ms : Nat} {Q : Option Value → mi_H → Prop} (hn : (lg_sl avs).length ≤ (pP.2.2.2.1 kJxc12de_init_da8c8).2.2.1) (body : mi_W pP X kJxc12de_init_da8c8 d mc ms 0 (lv_args 0 avs) [] h Q) : mi_S pP X kJxc12de_init_da8c8 d avs h mc ms Q := mi_S.of pP_ok rfl (by decide +kernel) hn body
def tbJx4a65c_init_da8c8 : List (Nat × Instr) := [(0, .aload_n 0), (1, .invokespecial 1), (4, .aload_n 0), (5, .getstatic 39), (8, .putfield 9), (11, .return_)]
theorem okJx4a65c_init_da8c8 : mi_tb (pP.2.2.2.1 kJx4a65c_init_da8c8).2.1 tbJx4a65c_init_da8c8 := mi_tb.of (by decide +kernel)
theorem enJx4a65c_init_da8c8 {X : mi_X} {d : Nat} {avs : List Value} {h : mi_H} {mc ms : Nat} {Q : Option Value → mi_H → Prop} (hn : (lg_sl avs).length ≤ (pP.2.2.2.1 kJx4a65c_init_da8c8).2.2.1) (body : mi_W pP X kJx4a65c_init_da8c8 d mc ms 0 (lv_args 0 avs) [] h Q) : mi_S pP X kJx4a65c_init_da8c8 d avs h mc ms Q := mi_S.of pP_ok rfl (by decide +kernel) hn body
def tbJx4a65c_size_8abf5 : List (Nat × Instr) := [(0, .aload_n 0), (1, .getfield 48), (4, .ireturn)]
theorem okJx4a65c_size_8abf5 : mi_tb (pP.2.2.2.1 kJx4a65c_size_8abf5).2.1 tbJx4a65c_size_8abf5 := mi_tb.of (by decide +kernel)
theorem enJx4a65c_size_8abf5 {X : mi_X} {d : Nat} {avs : List Value} {h : mi_H} {mc ms : Nat} {Q : Option Value → mi_H → Prop} (hn : (lg_sl avs).length ≤ (pP.2.2.2.1 kJx4a65c_size_8abf5).2.2.1) (body : mi_W pP X kJx4a65c_size_8abf5 d mc ms 0 (lv_args 0 avs) [] h Q) : mi_S pP X kJx4a65c_size_8abf5 d avs h mc ms Q := mi_S.of pP_ok rfl (by decide +kernel) hn body
def tbJx4a65c_iterator_32c93 : List (Nat × Instr) := [(0, .new 267), (3, .dup), (4, .aload_n 0), (5, .invokespecial 269), (8, .areturn)]
theorem okJx4a65c_iterator_32c93 : mi_tb (pP.2.2.2.1 kJx4a65c_iterator_32c93).2.1 tbJx4a65c_iterator_32c93 := mi_tb.of (by decide +kernel)
theorem enJx4a65c_iterator_32c93 {X : mi_X} {d : Nat} {avs : List Value} {h : mi_H} {mc ms : Nat} {Q : Option Value → mi_H → Prop} (hn : (lg_sl avs).length ≤ (pP.2.2.2.1 kJx4a65c_iterator_32c93).2.2.1) (body : mi_W pP X kJx4a65c_iterator_32c93 d mc ms 0 (lv_args 0 avs) [] h Q) : mi_S pP X kJx4a65c_iterator_32c93 d avs h mc ms Q := mi_S.of pP_ok rfl (by decide +kernel) hn body
def tbJx35411_init_45d68 : List (Nat × Instr) := [(0, .aload_n 0), (1, .aload_n 1), (2, .putfield 1), (5, .aload_n 0), (6, .invokespecial 7), (9, .aload_n 0), (10, .iconst (-1)), (11, .putfield 13), (14, .aload_n 0), (15, .aload_n 0), (16, .getfield 1), (19, .getfield 17), (22, .putfield 22), (25, .return_), (0, .aload_n 0), (1, .iload_n 1), (2, .aload_n 0), (3, .invokevirtual 86), (6, .invokestatic 300), (9, .areturn), (0, .aload_n 2), (1, .ldc 110), (3, .if_acmp .ne 10), (6, .iload_n 1), (7, .anewarray 2), (10, .goto 14), (13, .aload_n 2), (14, .invokevirtual 90), (17, .iload_n 1), (18, .invokestatic 95), (21, .checkcast 110), (24, .astore_n 3), (25, .aload_n 0), (26, .iconst 0), (27, .aload_n 3), (28, .iconst 0), (29, .aload_n 0), (30, .arraylength), (31, .iload_n 1), (32, .invokestatic 304), (35, .invokestatic 150), (38, .aload_n 3), (39, .areturn)]
theorem okJx35411_init_45d68 : mi_tb (pP.2.2.2.1 kJx35411_init_45d68).2.1 tbJx35411_init_45d68 := mi_tb.of (by decide +kernel)
theorem enJx35411_init_45d68 {X : mi_X} {d : Nat} {avs : List Value} {h : mi_H} {mc ms : Nat} {Q : Option Value → mi_H → Prop} (hn : (lg_sl avs).length ≤ (pP.2.2.2.1 kJx35411_init_45d68).2.2.1) (body : mi_W pP X kJx35411_init_45d68 d mc ms 0 (lv_args 0 avs) [] h Q) : mi_S pP X kJx35411_init_45d68 d avs h mc ms Q := mi_S.of pP_ok rfl (by decide +kernel) hn body
def tbJx35411_hasNext_aae02 : List (Nat × Instr) := [(0, .aload_n 0), (1, .getfield 25), (4, .aload_n 0), (5, .getfield 1), (8, .getfield 28), (11, .if_icmp .eq 7), (14, .iconst 1), (15, .goto 4), (18, .iconst 0), (19, .ireturn)]
theorem okJx35411_hasNext_aae02 : mi_tb (pP.2.2.2.1 kJx35411_hasNext_aae02).2.1 tbJx35411_hasNext_aae02 := mi_tb.of (by decide +kernel)
theorem enJx35411_hasNext_aae02 {X : mi_X} {d : Nat} {avs : List Value} {h : mi_H} {mc ms : Nat} {Q : Option Value → mi_H → Prop} (hn : (lg_sl avs).length ≤ (pP.2.2.2.1 kJx35411_hasNext_aae02).2.2.1) (body : mi_W pP X kJx35411_hasNext_aae02 d mc ms 0 (lv_args 0 avs) [] h Q) : mi_S pP X kJx35411_hasNext_aae02 d avs h mc ms Q := mi_S.of pP_ok rfl (by decide +kernel) hn body
def tbL_session : List (Nat × Instr) := [(0, .aload_n 1), (1, .iconst 0), (2, .aload_n 0), (3, .invokevirtual 7), (6, .i2l), (7, .lastore), (8, .goto 6), (11, .astore_n 2), (12, .iconst 1), (13, .ireturn), (14, .iconst 0), (15, .ireturn)]
theorem okL_session : mi_tb (pP.2.2.2.1 kL_session).2.1 tbL_session := mi_tb.of (by decide +kernel)
theorem ehL_session {X : mi_X} {d : Nat} {avs : List Value} {h : mi_H} {mc ms : Nat} {Q : Option Value → mi_H → Prop} (hn : (lg_sl avs).length ≤ (pP.2.2.2.1 kL_session).2.2.1) (body : mi_W pP X kL_session d mc ms 0 (lv_args 0 avs) [] h Q) : mi_SH pP X kL_session d avs h mc ms Q := mi_SH.of pP_ok (by decide +kernel) hn body
def tbL_track : List (Nat × Instr) := [(0, .aload_n 3), (1, .iconst 0), (2, .aload_n 0), (3, .iload_n 1), (4, .iload_n 2), (5, .invokevirtual 15), (8, .i2l), (9, .lastore), (10, .goto 11), (13, .astore 4), (15, .iconst 1), (16, .ireturn), (17, .astore 4), (19, .iconst 2), (20, .ireturn), (21, .iconst 0), (22, .ireturn)]
theorem okL_track : mi_tb (pP.2.2.2.1 kL_track).2.1 tbL_track := mi_tb.of (by decide +kernel)
theorem ehL_track {X : mi_X} {d : Nat} {avs : List Value} {h : mi_H} {mc ms : Nat} {Q : Option Value → mi_H → Prop} (hn : (lg_sl avs).length ≤ (pP.2.2.2.1 kL_track).2.2.1) (body : mi_W pP X kL_track d mc ms 0 (lv_args 0 avs) [] h Q) : mi_SH pP X kL_track d avs h mc ms Q := mi_SH.of pP_ok (by decide +kernel) hn body
def tbL_write : List (Nat × Instr) := [(0, .aload 4), (2, .iconst 0), (3, .aload_n 0), (4, .iload_n 1), (5, .lload_n 2), (6, .invokevirtual 21), (9, .i2l), (10, .lastore), (11, .goto 15), (14, .astore 5), (16, .iconst 1), (17, .ireturn), (18, .astore 5), (20, .iconst 2), (21, .ireturn), (22, .astore 5), (24, .iconst 3), (25, .ireturn), (26, .iconst 0), (27, .ireturn)]
theorem okL_write : mi_tb (pP.2.2.2.1 kL_write).2.1 tbL_write := mi_tb.of (by decide +kernel)
theorem ehL_write {X : mi_X} {d : Nat} {avs : List Value} {h : mi_H} {mc ms : Nat} {Q : Option Value → mi_H → Prop} (hn : (lg_sl avs).length ≤ (pP.2.2.2.1 kL_write).2.2.1) (body : mi_W pP X kL_write d mc ms 0 (lv_args 0 avs) [] h Q) : mi_SH pP X kL_write d avs h mc ms Q := mi_SH.of pP_ok (by decide +kernel) hn body
def tbL_starve : List (Nat × Instr) := [(0, .aload_n 2), (1, .iconst 0), (2, .aload_n 0), (3, .iload_n 1), (4, .invokevirtual 27), (7, .i2l), (8, .lastore), (9, .goto 9), (12, .astore_n 3), (13, .iconst 1), (14, .ireturn), (15, .astore_n 3), (16, .iconst 2), (17, .ireturn), (18, .iconst 0), (19, .ireturn)]
theorem okL_starve : mi_tb (pP.2.2.2.1 kL_starve).2.1 tbL_starve := mi_tb.of (by decide +kernel)
theorem ehL_starve {X : mi_X} {d : Nat} {avs : List Value} {h : mi_H} {mc ms : Nat} {Q : Option Value → mi_H → Prop} (hn : (lg_sl avs).length ≤ (pP.2.2.2.1 kL_starve).2.2.1) (body : mi_W pP X kL_starve d mc ms 0 (lv_args 0 avs) [] h Q) : mi_SH pP X kL_starve d avs h mc ms Q := mi_SH.of pP_ok (by decide +kernel) hn body
def tbL_close : List (Nat × Instr) := [(0, .aload_n 2), (1, .iconst 0), (2, .aload_n 0), (3, .iload_n 1), (4, .invokevirtual 31), (7, .i2l), (8, .lastore), (9, .goto 9), (12, .astore_n 3), (13, .iconst 1), (14, .ireturn), (15, .astore_n 3), (16, .iconst 2), (17, .ireturn), (18, .iconst 0), (19, .ireturn)]
theorem okL_close : mi_tb (pP.2.2.2.1 kL_close).2.1 tbL_close := mi_tb.of (by decide +kernel)
theorem ehL_close {X : mi_X} {d : Nat} {avs : List Value} {h : mi_H} {mc ms : Nat} {Q : Option Value → mi_H → Prop} (hn : (lg_sl avs).length ≤ (pP.2.2.2.1 kL_close).2.2.1) (body : mi_W pP X kL_close d mc ms 0 (lv_args 0 avs) [] h Q) : mi_SH pP X kL_close d avs h mc ms Q := mi_SH.of pP_ok (by decide +kernel) hn body
def tbL_end : List (Nat × Instr) := [(0, .aload_n 1), (1, .iconst 0), (2, .aload_n 0), (3, .invokevirtual 34), (6, .i2l), (7, .lastore), (8, .goto 6), (11, .astore_n 2), (12, .iconst 1), (13, .ireturn), (14, .iconst 0), (15, .ireturn)]
theorem okL_end : mi_tb (pP.2.2.2.1 kL_end).2.1 tbL_end := mi_tb.of (by decide +kernel)
theorem ehL_end {X : mi_X} {d : Nat} {avs : List Value} {h : mi_H} {mc ms : Nat} {Q : Option Value → mi_H → Prop} (hn : (lg_sl avs).length ≤ (pP.2.2.2.1 kL_end).2.2.1) (body : mi_W pP X kL_end d mc ms 0 (lv_args 0 avs) [] h Q) : mi_SH pP X kL_end d avs h mc ms Q := mi_SH.of pP_ok (by decide +kernel) hn body
def tbL_file : List (Nat × Instr) := [(0, .aload 4), (2, .iconst 0), (3, .aload_n 0), (4, .iload_n 1), (5, .iload_n 2), (6, .iload_n 3), (7, .invokevirtual 37), (10, .i2l), (11, .lastore), (12, .goto 15), (15, .astore 5), (17, .iconst 1), (18, .ireturn), (19, .astore 5), (21, .iconst 2), (22, .ireturn), (23, .astore 5), (25, .iconst 3), (26, .ireturn), (27, .iconst 0), (28, .ireturn)]
theorem okL_file : mi_tb (pP.2.2.2.1 kL_file).2.1 tbL_file := mi_tb.of (by decide +kernel)
theorem ehL_file {X : mi_X} {d : Nat} {avs : List Value} {h : mi_H} {mc ms : Nat} {Q : Option Value → mi_H → Prop} (hn : (lg_sl avs).length ≤ (pP.2.2.2.1 kL_file).2.2.1) (body : mi_W pP X kL_file d mc ms 0 (lv_args 0 avs) [] h Q) : mi_SH pP X kL_file d avs h mc ms Q := mi_SH.of pP_ok (by decide +kernel) hn body
def tbL_scratch : List (Nat × Instr) := [(0, .aload 5), (2, .iconst 0), (3, .aload_n 0), (4, .iload_n 1), (5, .iload_n 2), (6, .iload_n 3), (7, .iload 4), (9, .invokevirtual 41), (12, .i2l), (13, .lastore), (14, .goto 7), (17, .astore 6), (19, .iconst 1), (20, .ireturn), (21, .iconst 0), (22, .ireturn)]
theorem okL_scratch : mi_tb (pP.2.2.2.1 kL_scratch).2.1 tbL_scratch := mi_tb.of (by decide +kernel)
theorem ehL_scratch {X : mi_X} {d : Nat} {avs : List Value} {h : mi_H} {mc ms : Nat} {Q : Option Value → mi_H → Prop} (hn : (lg_sl avs).length ≤ (pP.2.2.2.1 kL_scratch).2.2.1) (body : mi_W pP X kL_scratch d mc ms 0 (lv_args 0 avs) [] h Q) : mi_SH pP X kL_scratch d avs h mc ms Q := mi_SH.of pP_ok (by decide +kernel) hn body
def tbL_rot : List (Nat × Instr) := [(0, .aload_n 2), (1, .iconst 0), (2, .aload_n 0), (3, .iload_n 1), (4, .invokevirtual 45), (7, .i2l), (8, .lastore), (9, .goto 6), (12, .astore_n 3), (13, .iconst 1), (14, .ireturn), (15, .iconst 0), (16, .ireturn)]
theorem okL_rot : mi_tb (pP.2.2.2.1 kL_rot).2.1 tbL_rot := mi_tb.of (by decide +kernel)
theorem ehL_rot {X : mi_X} {d : Nat} {avs : List Value} {h : mi_H} {mc ms : Nat} {Q : Option Value → mi_H → Prop} (hn : (lg_sl avs).length ≤ (pP.2.2.2.1 kL_rot).2.2.1) (body : mi_W pP X kL_rot d mc ms 0 (lv_args 0 avs) [] h Q) : mi_SH pP X kL_rot d avs h mc ms Q := mi_SH.of pP_ok (by decide +kernel) hn body
def tbL_read : List (Nat × Instr) := [(0, .aload_n 2), (1, .iconst 0), (2, .aload_n 0), (3, .iload_n 1), (4, .invokevirtual 48), (7, .i2l), (8, .lastore), (9, .goto 9), (12, .astore_n 3), (13, .iconst 1), (14, .ireturn), (15, .astore_n 3), (16, .iconst 2), (17, .ireturn), (18, .iconst 0), (19, .ireturn)]
theorem okL_read : mi_tb (pP.2.2.2.1 kL_read).2.1 tbL_read := mi_tb.of (by decide +kernel)
theorem ehL_read {X : mi_X} {d : Nat} {avs : List Value} {h : mi_H} {mc ms : Nat} {Q : Option Value → mi_H → Prop} (hn : (lg_sl avs).length ≤ (pP.2.2.2.1 kL_read).2.2.1) (body : mi_W pP X kL_read d mc ms 0 (lv_args 0 avs) [] h Q) : mi_SH pP X kL_read d avs h mc ms Q := mi_SH.of pP_ok (by decide +kernel) hn body
def tbL_seek : List (Nat × Instr) := [(0, .aload_n 2), (1, .iconst 0), (2, .aload_n 0), (3, .iload_n 1), (4, .invokevirtual 51), (7, .dastore), (8, .goto 6), (11, .astore_n 3), (12, .iconst 1), (13, .ireturn), (14, .iconst 0), (15, .ireturn)]
theorem okL_seek : mi_tb (pP.2.2.2.1 kL_seek).2.1 tbL_seek := mi_tb.of (by decide +kernel)
theorem ehL_seek {X : mi_X} {d : Nat} {avs : List Value} {h : mi_H} {mc ms : Nat} {Q : Option Value → mi_H → Prop} (hn : (lg_sl avs).length ≤ (pP.2.2.2.1 kL_seek).2.2.1) (body : mi_W pP X kL_seek d mc ms 0 (lv_args 0 avs) [] h Q) : mi_SH pP X kL_seek d avs h mc ms Q := mi_SH.of pP_ok (by decide +kernel) hn body
def tbL_angle : List (Nat × Instr) := [(0, .aload_n 2), (1, .iconst 0), (2, .aload_n 0), (3, .iload_n 1), (4, .invokevirtual 55), (7, .dastore), (8, .goto 6), (11, .astore_n 3), (12, .iconst 1), (13, .ireturn), (14, .iconst 0), (15, .ireturn)]
theorem okL_angle : mi_tb (pP.2.2.2.1 kL_angle).2.1 tbL_angle := mi_tb.of (by decide +kernel)
theorem ehL_angle {X : mi_X} {d : Nat} {avs : List Value} {h : mi_H} {mc ms : Nat} {Q : Option Value → mi_H → Prop} (hn : (lg_sl avs).length ≤ (pP.2.2.2.1 kL_angle).2.2.1) (body : mi_W pP X kL_angle d mc ms 0 (lv_args 0 avs) [] h Q) : mi_SH pP X kL_angle d avs h mc ms Q := mi_SH.of pP_ok (by decide +kernel) hn body
def tbL_ofSector : List (Nat × Instr) := [(0, .aload_n 3), (1, .iconst 0), (2, .aload_n 0), (3, .iload_n 1), (4, .iload_n 2), (5, .invokevirtual 58), (8, .i2l), (9, .lastore), (10, .goto 11), (13, .astore 4), (15, .iconst 1), (16, .ireturn), (17, .astore 4), (19, .iconst 2), (20, .ireturn), (21, .iconst 0), (22, .ireturn)]
theorem okL_ofSector : mi_tb (pP.2.2.2.1 kL_ofSector).2.1 tbL_ofSector := mi_tb.of (by decide +kernel)
theorem ehL_ofSector {X : mi_X} {d : Nat} {avs : List Value} {h : mi_H} {mc ms : Nat} {Q : Option Value → mi_H → Prop} (hn : (lg_sl avs).length ≤ (pP.2.2.2.1 kL_ofSector).2.2.1) (body : mi_W pP X kL_ofSector d mc ms 0 (lv_args 0 avs) [] h Q) : mi_SH pP X kL_ofSector d avs h mc ms Q := mi_SH.of pP_ok (by decide +kernel) hn body
def tbL_nibbles : List (Nat × Instr) := [(0, .aload_n 3), (1, .iconst 0), (2, .aload_n 0), (3, .iload_n 1), (4, .iload_n 2), (5, .invokevirtual 61), (8, .lastore), (9, .goto 7), (12, .astore 4), (14, .iconst 1), (15, .ireturn), (16, .iconst 0), (17, .ireturn)]
theorem okL_nibbles : mi_tb (pP.2.2.2.1 kL_nibbles).2.1 tbL_nibbles := mi_tb.of (by decide +kernel)
theorem ehL_nibbles {X : mi_X} {d : Nat} {avs : List Value} {h : mi_H} {mc ms : Nat} {Q : Option Value → mi_H → Prop} (hn : (lg_sl avs).length ≤ (pP.2.2.2.1 kL_nibbles).2.2.1) (body : mi_W pP X kL_nibbles d mc ms 0 (lv_args 0 avs) [] h Q) : mi_SH pP X kL_nibbles d avs h mc ms Q := mi_SH.of pP_ok (by decide +kernel) hn body
def tbL_place : List (Nat × Instr) := [(0, .aload_n 3), (1, .iconst 0), (2, .aload_n 0), (3, .iload_n 1), (4, .iload_n 2), (5, .invokevirtual 65), (8, .i2l), (9, .lastore), (10, .goto 7), (13, .astore 4), (15, .iconst 1), (16, .ireturn), (17, .iconst 0), (18, .ireturn)]
theorem okL_place : mi_tb (pP.2.2.2.1 kL_place).2.1 tbL_place := mi_tb.of (by decide +kernel)
theorem ehL_place {X : mi_X} {d : Nat} {avs : List Value} {h : mi_H} {mc ms : Nat} {Q : Option Value → mi_H → Prop} (hn : (lg_sl avs).length ≤ (pP.2.2.2.1 kL_place).2.2.1) (body : mi_W pP X kL_place d mc ms 0 (lv_args 0 avs) [] h Q) : mi_SH pP X kL_place d avs h mc ms Q := mi_SH.of pP_ok (by decide +kernel) hn body
def tbL_ofTrack : List (Nat × Instr) := [(0, .aload_n 3), (1, .iconst 0), (2, .aload_n 0), (3, .iload_n 1), (4, .iload_n 2), (5, .invokevirtual 68), (8, .i2l), (9, .lastore), (10, .goto 11), (13, .astore 4), (15, .iconst 1), (16, .ireturn), (17, .astore 4), (19, .iconst 2), (20, .ireturn), (21, .iconst 0), (22, .ireturn)]
theorem okL_ofTrack : mi_tb (pP.2.2.2.1 kL_ofTrack).2.1 tbL_ofTrack := mi_tb.of (by decide +kernel)
theorem ehL_ofTrack {X : mi_X} {d : Nat} {avs : List Value} {h : mi_H} {mc ms : Nat} {Q : Option Value → mi_H → Prop} (hn : (lg_sl avs).length ≤ (pP.2.2.2.1 kL_ofTrack).2.2.1) (body : mi_W pP X kL_ofTrack d mc ms 0 (lv_args 0 avs) [] h Q) : mi_SH pP X kL_ofTrack d avs h mc ms Q := mi_SH.of pP_ok (by decide +kernel) hn body
def tbL_ofFile : List (Nat × Instr) := [(0, .aload 4), (2, .iconst 0), (3, .aload_n 0), (4, .iload_n 1), (5, .iload_n 2), (6, .iload_n 3), (7, .invokevirtual 71), (10, .i2l), (11, .lastore), (12, .goto 11), (15, .astore 5), (17, .iconst 1), (18, .ireturn), (19, .astore 5), (21, .iconst 2), (22, .ireturn), (23, .iconst 0), (24, .ireturn)]
theorem okL_ofFile : mi_tb (pP.2.2.2.1 kL_ofFile).2.1 tbL_ofFile := mi_tb.of (by decide +kernel)
theorem ehL_ofFile {X : mi_X} {d : Nat} {avs : List Value} {h : mi_H} {mc ms : Nat} {Q : Option Value → mi_H → Prop} (hn : (lg_sl avs).length ≤ (pP.2.2.2.1 kL_ofFile).2.2.1) (body : mi_W pP X kL_ofFile d mc ms 0 (lv_args 0 avs) [] h Q) : mi_SH pP X kL_ofFile d avs h mc ms Q := mi_SH.of pP_ok (by decide +kernel) hn body
def tbL_play : List (Nat × Instr) := [(0, .aload_n 2), (1, .iconst 0), (2, .aload_n 0), (3, .iload_n 1), (4, .invokevirtual 74), (7, .dastore), (8, .goto 9), (11, .astore_n 3), (12, .iconst 1), (13, .ireturn), (14, .astore_n 3), (15, .iconst 2), (16, .ireturn), (17, .iconst 0), (18, .ireturn)]
theorem okL_play : mi_tb (pP.2.2.2.1 kL_play).2.1 tbL_play := mi_tb.of (by decide +kernel)
theorem ehL_play {X : mi_X} {d : Nat} {avs : List Value} {h : mi_H} {mc ms : Nat} {Q : Option Value → mi_H → Prop} (hn : (lg_sl avs).length ≤ (pP.2.2.2.1 kL_play).2.2.1) (body : mi_W pP X kL_play d mc ms 0 (lv_args 0 avs) [] h Q) : mi_SH pP X kL_play d avs h mc ms Q := mi_SH.of pP_ok (by decide +kernel) hn body
def tbL_many : List (Nat × Instr) := [(0, .aload_n 2), (1, .iconst 0), (2, .aload_n 0), (3, .iload_n 1), (4, .invokevirtual 77), (7, .i2l), (8, .lastore), (9, .goto 6), (12, .astore_n 3), (13, .iconst 1), (14, .ireturn), (15, .iconst 0), (16, .ireturn)]
theorem okL_many : mi_tb (pP.2.2.2.1 kL_many).2.1 tbL_many := mi_tb.of (by decide +kernel)
theorem ehL_many {X : mi_X} {d : Nat} {avs : List Value} {h : mi_H} {mc ms : Nat} {Q : Option Value → mi_H → Prop} (hn : (lg_sl avs).length ≤ (pP.2.2.2.1 kL_many).2.2.1) (body : mi_W pP X kL_many d mc ms 0 (lv_args 0 avs) [] h Q) : mi_SH pP X kL_many d avs h mc ms Q := mi_SH.of pP_ok (by decide +kernel) hn body
def tbL_wouldTake : List (Nat × Instr) := [(0, .aload_n 3), (1, .iconst 0), (2, .aload_n 0), (3, .iload_n 1), (4, .iload_n 2), (5, .invokevirtual 80), (8, .dastore), (9, .goto 11), (12, .astore 4), (14, .iconst 1), (15, .ireturn), (16, .astore 4), (18, .iconst 2), (19, .ireturn), (20, .iconst 0), (21, .ireturn)]
theorem okL_wouldTake : mi_tb (pP.2.2.2.1 kL_wouldTake).2.1 tbL_wouldTake := mi_tb.of (by decide +kernel)
theorem ehL_wouldTake {X : mi_X} {d : Nat} {avs : List Value} {h : mi_H} {mc ms : Nat} {Q : Option Value → mi_H → Prop} (hn : (lg_sl avs).length ≤ (pP.2.2.2.1 kL_wouldTake).2.2.1) (body : mi_W pP X kL_wouldTake d mc ms 0 (lv_args 0 avs) [] h Q) : mi_SH pP X kL_wouldTake d avs h mc ms Q := mi_SH.of pP_ok (by decide +kernel) hn body
def tbL_wouldMend : List (Nat × Instr) := [(0, .aload_n 3), (1, .iconst 0), (2, .aload_n 0), (3, .iload_n 1), (4, .iload_n 2), (5, .invokevirtual 84), (8, .i2l), (9, .lastore), (10, .goto 11), (13, .astore 4), (15, .iconst 1), (16, .ireturn), (17, .astore 4), (19, .iconst 2), (20, .ireturn), (21, .iconst 0), (22, .ireturn)]
theorem okL_wouldMend : mi_tb (pP.2.2.2.1 kL_wouldMend).2.1 tbL_wouldMend := mi_tb.of (by decide +kernel)
theorem ehL_wouldMend {X : mi_X} {d : Nat} {avs : List Value} {h : mi_H} {mc ms : Nat} {Q : Option Value → mi_H → Prop} (hn : (lg_sl avs).length ≤ (pP.2.2.2.1 kL_wouldMend).2.2.1) (body : mi_W pP X kL_wouldMend d mc ms 0 (lv_args 0 avs) [] h Q) : mi_SH pP X kL_wouldMend d avs h mc ms Q := mi_SH.of pP_ok (by decide +kernel) hn body
end
section
theorem mm_RX4_43 : Jvm.Cond.methodLink RX4 43 Lib.Math.abs.name ∈ pP.2.1 := pT_mem 649 (by decide +kernel) (by decide +kernel)
theorem mm_RX2_39 : Jvm.Cond.methodLink RX2 39 Lib.Math.abs.name ∈ pP.2.1 := pT_mem 766 (by decide +kernel) (by decide +kernel)
theorem mm_RX9_106 : Jvm.Cond.methodLink RX9 106 Lib.Math.abs.name ∈ pP.2.1 := pT_mem 1181 (by decide +kernel) (by decide +kernel)
theorem ms_abs : Jvm.Cond.static Lib.Math.abs.name ∈ pP.2.1 := pT_mem 650 (by decide +kernel) (by decide +kernel)
theorem mc_abs : Jvm.Cond.code Lib.Math.abs.name Lib.Math.abs.code 1 (some .int) ∈ pP.2.1 := pT_mem 651 (by decide +kernel) (by decide +kernel)
theorem mm_RX4_48 : Jvm.Cond.methodLink RX4 48 Lib.Math.max.name ∈ pP.2.1 := pT_mem 656 (by decide +kernel) (by decide +kernel)
theorem mm_RJ8_194 : Jvm.Cond.methodLink RJ8 194 Lib.Math.max.name ∈ pP.2.1 := pT_mem 1002 (by decide +kernel) (by decide +kernel)
theorem mm_RJx4a65c_79 : Jvm.Cond.methodLink RJx4a65c 79 Lib.Math.max.name ∈ pP.2.1 := pT_mem 1038 (by decide +kernel) (by decide +kernel)
theorem mm_RX9_62 : Jvm.Cond.methodLink RX9 62 Lib.Math.max.name ∈ pP.2.1 := pT_mem 1218 (by decide +kernel) (by decide +kernel)
theorem ms_max : Jvm.Cond.static Lib.Math.max.name ∈ pP.2.1 := pT_mem 657 (by decide +kernel) (by decide +kernel)
theorem mc_max : Jvm.Cond.code Lib.Math.max.name Lib.Math.max.code 2 (some .int) ∈ pP.2.1 := pT_mem 658 (by decide +kernel) (by decide +kernel)
theorem mm_RX2_66 : Jvm.Cond.methodLink RX2 66 Lib.Math.min.name ∈ pP.2.1 := pT_mem 782 (by decide +kernel) (by decide +kernel)
theorem mm_RX8_305 : Jvm.Cond.methodLink RX8 305 Lib.Math.min.name ∈ pP.2.1 := pT_mem 856 (by decide +kernel) (by decide +kernel)
theorem mm_RJ7_304 : Jvm.Cond.methodLink RJ7 304 Lib.Math.min.name ∈ pP.2.1 := pT_mem 1034 (by decide +kernel) (by decide +kernel)
theorem mm_RX9_194 : Jvm.Cond.methodLink RX9 194 Lib.Math.min.name ∈ pP.2.1 := pT_mem 1192 (by decide +kernel) (by decide +kernel)
theorem ms_min : Jvm.Cond.static Lib.Math.min.name ∈ pP.2.1 := pT_mem 783 (by decide +kernel) (by decide +kernel)
theorem mc_min : Jvm.Cond.code Lib.Math.min.name Lib.Math.min.code 2 (some .int) ∈ pP.2.1 := pT_mem 784 (by decide +kernel) (by decide +kernel)
theorem mz_Math : Jvm.Cond.initialized "java/lang/Math" ∈ pP.2.1 := pT_mem 58 (by decide +kernel) (by decide +kernel)
end
