-- new things, and calls
theorem mi_R.push {P : mi_P} {D : va_G} {dA : Nat → ClassId} {b0 : Nat} {xa : Nat → Nat} {H H1 : Heap} {h : mi_H} (hR : mi_R P D dA b0 xa H h) (c : mi_C) (e : va_at D P.1 (H.size, mi_e dA (mi_ad P.2.2.2.2.2.1 b0 xa) c) H1) (z : H1.size = H.size + 1) (o : ∀ q : Nat, q < H.size → H1[q]? = H[q]?) : mi_R P D dA b0 xa H1 (h.1 + 1, va_up h.2 h.1 c) := by
  obtain ⟨h1, h2, h3⟩ := hR
  refine ⟨by show _ ≤ h.1 + 1; omega, by rw [z, h2]; show _ = b0 + (h.1 + 1 - _); omega, ?_⟩
  rw [← mi_w_push h1 c, ← h2]
  refine (h3.kept (fun k x hx => o x.1 ((h3 k x hx).lt))).app (fun k x hx => ?_)
  have hz : k < 1 := (List.getElem?_eq_some_iff.mp hx).1
  rw [show k = 0 by omega] at hx
  cases hx
  exact e
theorem mi_S_push {b0 : Nat} {s : State} {H H1 : Heap} {locs : List Loc} (hS : va_S (fun q => b0 ≤ q) s.heap H locs) (z : H1.size = H.size + 1) (o : ∀ q : Nat, q < H.size → H1[q]? = H[q]?) : va_S (fun q => b0 ≤ q) s.heap H1 locs :=
  ⟨Nat.le_trans hS.1 (by omega), fun x h1 h2 => (o x (Nat.lt_of_lt_of_le h1 hS.1)).trans (hS.2.1 x h1 h2), hS.2.2⟩
section MIN
variable {QX : Nat → Nat → mi_H → Prop} {P : mi_P} {X : mi_X} {k d mc ms pc : Nat} {lv : mi_L} {st : List Value} {h : mi_H} {Q : Option Value → mi_H → Prop} {tb : List (Nat × Instr)}
set_option maxHeartbeats 4000000 in
theorem mi_new (ht : mi_tb (P.2.2.2.1 k).2.1 tb) {index ci N : Nat} {C : String} {T : u_T} {ty0 : Nat → FieldType} {fs : List Value} (hi : mi_at tb pc = some (.new index)) (hcf : mi_cf P ci C T N ty0) (h1 : Cond.classLink (P.2.2.2.1 k).1.cls index C ∈ P.2.1) (h2 : Cond.instantiable C N ∈ P.2.1) (h3 : Cond.initialized C ∈ P.2.1) (hfs : ∀ j, j < N → defaultValue (ty0 j) = vp_V fs j) (hrf : ∀ ad, fs.map (mi_V ad) = fs)
    (w : mi_WX QX P X k d mc ms (pc + 3) lv (.ref h.1 :: st) (h.1 + 1, va_up h.2 h.1 (.inr (ci, fs))) Q) : mi_WX QX P X k d (mc + 1) (ms + N) pc lv st h Q := by
  intro p l e R s m args below meth c H locs cells slots Z D dA b0 xa ls F hS hmc hms hR hl hZ
  have F0' := F
  obtain ⟨hx, hb, hml, hown, hts, hnm, -, -, -, -, hz0, hK, -, -, hN⟩ := F
  obtain ⟨c1, c2, c3, c4⟩ := hcf
  have hKn := hK.1 ci _ c1
  have ea : mi_ad P.2.2.2.2.2.1 b0 xa h.1 = H.size := by
    unfold mi_ad
    rw [if_neg (by have := hR.1; omega), hR.2.1]
  refine W.newcK hx hb hown (hts _ h1) (hts _ h2) (hts _ h3) rfl (ht pc _ (mi_at_mem hi)) (by omega) (by omega) hKn.2.1 rfl fun H1 kC hkC e1 z1 o1 => ?_
  have hw := w p l e R s m args below meth c H1 locs (cells + 1) (slots + N) Z D dA b0 xa ls F0' (mi_S_push hS z1 o1) (by omega) (by omega) (hR.push (.inr (ci, fs)) (by
    show va_at D P.1 (H.size, .inr (ci, fs.map (mi_V (mi_ad P.2.2.2.2.2.1 b0 xa)))) H1
    rw [hrf]
    exact ⟨_, c1, (u_born ty0 hts c2 hKn hkC e1 c3).to hfs⟩) z1 o1) hl hZ
  rw [List.map_cons, show mi_V (mi_ad P.2.2.2.2.2.1 b0 xa) (.ref h.1) = .ref H.size from congrArg Value.ref ea] at hw
  exact hw
set_option maxHeartbeats 4000000 in
theorem mi_newa (ht : mi_tb (P.2.2.2.1 k).2.1 tb) {atype : ArrayType} {t N : Nat} {n : Int32} {z : (Nat → Int32) ⊕ (Nat → Int64) ⊕ (Nat → UInt32) ⊕ (Nat → UInt64) ⊕ (Nat → Option Nat)} (hi : mi_at tb pc = some (.newarray atype)) (htt : P.2.2.2.2.1[t]? = some (newarray.typeOf atype)) (harr : Cond.arrayClass (newarray.typeOf atype) ∈ P.2.1) (hn : ¬ n < 0) (hN : n.toNatClampNeg = N) (hby : N * componentBytes (newarray.typeOf atype) ≤ 536870912)
    (hz : ∀ cA, vp_cell cA (N, z) = arrV cA N (fun _ => defaultValue (newarray.typeOf atype))) (hzz : ∀ ad, mi_z ad z = z) (w : mi_WX QX P X k d mc ms (pc + 2) lv (.ref h.1 :: st) (h.1 + 1, va_up h.2 h.1 (.inl (t, N, z))) Q) : mi_WX QX P X k d (mc + 1) (ms + N) pc lv (.int n :: st) h Q := by
  intro p l e R s m args below meth c H locs cells slots Z D dA b0 xa ls F hS hmc hms hR hl hZ
  have F0' := F
  obtain ⟨hx, hb, hml, hown, hts, hnm, -, -, -, -, hz0, hK, -, -, hNw⟩ := F
  have ea : mi_ad P.2.2.2.2.2.1 b0 xa h.1 = H.size := by
    unfold mi_ad
    rw [if_neg (by have := hR.1; omega), hR.2.1]
  refine va_newaK hx hb (hts _ harr) rfl (ht pc _ (mi_at_mem hi)) rfl hn hN hby (by omega) (by omega) rfl fun H1 cA e1 z1 o1 hAr hNm => ?_
  have hcA : cA = dA t := by
    have h2 := (hK.2 t _ (mi_tys_at htt)).2
    have h3 : s.vm.findClass ("[" ++ (newarray.typeOf atype).toString) = some (dA t) := by cases atype <;> exact h2
    exact Option.some.inj (hNm.symm.trans h3)
  subst hcA
  have hw := w p l e R s m args below meth c H1 locs (cells + 1) (slots + N) Z D dA b0 xa ls F0' (mi_S_push hS z1 o1) (by omega) (by omega) (hR.push (.inl (t, N, z)) (by
    show H1[H.size]? = some (vp_cell (dA t) (N, mi_z (mi_ad P.2.2.2.2.2.1 b0 xa) z))
    rw [hzz, hz]
    exact e1) z1 o1) hl hZ
  rw [List.map_cons, show mi_V (mi_ad P.2.2.2.2.2.1 b0 xa) (.ref h.1) = .ref H.size from congrArg Value.ref ea] at hw
  exact hw
set_option maxHeartbeats 4000000 in
theorem mi_newq (ht : mi_tb (P.2.2.2.1 k).2.1 tb) {index t N : Nat} {n : Int32} {C : String} (hi : mi_at tb pc = some (.anewarray index)) (htt : P.2.2.2.2.1[t]? = some (.object C)) (hcl : Cond.classLink (P.2.2.2.1 k).1.cls index C ∈ P.2.1) (hov : Cond.arrayOver (.object C) ∈ P.2.2.1) (hn : ¬ n < 0) (hN : n.toNatClampNeg = N) (hby : N * 4 ≤ 536870912)
    (w : mi_WX QX P X k d mc ms (pc + 3) lv (.ref h.1 :: st) (h.1 + 1, va_up h.2 h.1 (.inl (t, N, .inr (.inr (.inr (.inr (fun _ => none))))))) Q) : mi_WX QX P X k d (mc + 1) (ms + N) pc lv (.int n :: st) h Q := by
  intro p l e R s m args below meth c H locs cells slots Z D dA b0 xa ls F hS hmc hms hR hl hZ
  have F0' := F
  obtain ⟨hx, hb, hml, hown, hts, hnm, -, -, -, -, hz0, hK, -, -, hNw⟩ := F
  have ea : mi_ad P.2.2.2.2.2.1 b0 xa h.1 = H.size := by
    unfold mi_ad
    rw [if_neg (by have := hR.1; omega), hR.2.1]
  subst hN
  refine W.anew hx hb hown (hts _ hcl) (va_AO.use (hNw _ hov)) rfl (ht pc _ (mi_at_mem hi)) rfl hn hby (by omega) (by omega) fun cA kA comp f1 f2 f3 f4 => ?_
  have hcA : cA = dA t := by
    obtain ⟨_, _, -, -, -, h4⟩ := (hK.2 t _ (mi_tys_at htt)).2
    exact Option.some.inj (f1.symm.trans h4)
  subst hcA
  generalize hH1 : H.push ({ cls := dA t, slots := Array.replicate n.toNatClampNeg .null, vm := .none } : Cell) = H1
  have z1 : H1.size = H.size + 1 := by rw [← hH1, Array.size_push]
  have e1 : H1[H.size]? = some (arrV (dA t) n.toNatClampNeg (fun _ => .null)) := by rw [← hH1, Array.getElem?_push_size, ← arrV_new]
  have o1 : ∀ q : Nat, q < H.size → H1[q]? = H[q]? := fun q hq => by rw [← hH1, Array.getElem?_push, if_neg (Nat.ne_of_lt hq)]
  have hw := w p l e R s m args below meth c H1 locs (cells + 1) (slots + n.toNatClampNeg) Z D dA b0 xa ls F0' (mi_S_push hS z1 o1) (by omega) (by omega) (hR.push (.inl (t, n.toNatClampNeg, .inr (.inr (.inr (.inr (fun _ => none)))))) e1 z1 o1) hl hZ
  rw [List.map_cons, show mi_V (mi_ad P.2.2.2.2.2.1 b0 xa) (.ref h.1) = .ref H.size from congrArg Value.ref ea] at hw
  exact hw
theorem mi_objInit (ht : mi_tb (P.2.2.2.1 k).2.1 tb) {index a : Nat} (hi : mi_at tb pc = some (.invokespecial index)) (h1 : Cond.methodLink (P.2.2.2.1 k).1.cls index objectInit ∈ P.2.1) (h2 : Cond.instanceMethod objectInit ∈ P.2.1) (h3 : Cond.code objectInit ⟨#[0xb1]⟩ 1 none ∈ P.2.1) (hd : 1 ≤ d) (hst : (st.map fun v => v.category).sum ≤ 8)
    (w : mi_WX QX P X k d mc ms (pc + 3) lv st h Q) : mi_WX QX P X k d mc ms pc lv (.ref a :: st) h Q := by
  intro p l e R s m args below meth c H locs cells slots Z D dA b0 xa ls F hS hmc hms hR hl hZ
  have hw := w p l e R s m args below meth c H locs cells slots Z D dA b0 xa ls F hS hmc hms hR hl hZ
  obtain ⟨hx, hb, hml, hown, hts, hnm, -, -, hf1, hf2, hz0, hK, -, -, hNw⟩ := F
  refine W.objInit hx hb hown (hts _ h1) (hts _ h2) (hts _ h3) (g := F0 m pc ls (.ref (mi_ad P.2.2.2.2.2.1 b0 xa a) :: st.map (mi_V (mi_ad P.2.2.2.2.2.1 b0 xa)))) rfl (hl.1.trans hml.symm) rfl (ht pc _ (mi_at_mem hi)) (by omega) ?_ hw
  have := lv_room (m := m) (pc := pc) (ls := ls) (rest := .ref (mi_ad P.2.2.2.2.2.1 b0 xa a) :: st.map (mi_V (mi_ad P.2.2.2.2.2.1 b0 xa))) (st := st.map (mi_V (mi_ad P.2.2.2.2.2.1 b0 xa))) (by rw [List.map_map]; rw [show ((fun v : Value => v.category) ∘ mi_V (mi_ad P.2.2.2.2.2.1 b0 xa)) = fun v => v.category from funext fun v => mi_V_cat _ v]; exact hst)
  omega
end MIN
-- a call, whatever it answers
theorem mi_U.go {P : mi_P} {X : mi_X} {D : va_G} {dA : Nat → ClassId} {b0 : Nat} {xa : Nat → Nat} {s U : State} {H : Heap} {locs : List Loc} (h : mi_U P X D dA b0 xa s) (hS : va_S (fun q => b0 ≤ q) s.heap H locs) (hw : mi_nw P) (hU : U.heap = H) (hW : s.WarmedH U.vm) : mi_U P X D dA b0 xa U := by
  obtain ⟨h1, h2, h3, h4, h5⟩ := h
  have hWs := hW
  have ho : ∀ a : Nat, a < s.heap.size → ¬ b0 ≤ a → U.heap[a]? = s.heap[a]? := fun a h1 h2 => by rw [hU]; exact hS.2.1 a h1 h2
  refine ⟨by rw [hU]; exact Nat.le_trans h1 hS.1, va_K.moved hW.alike h2, fun a ha => ((h3 a ha).kept ho).moved hW.alike, ⟨fun q hq => ⟨(h4.1 q hq).1, ((h4.1 q hq).2.kept ho).moved hW.alike⟩, hw.2.2 _ _ _ _ ho (hw.2.1 _ _ _ _ hW h4.2)⟩, fun w hw' => ?_⟩
  rcases hw.1 w hw' with ⟨a, i, b, n, d, h, rfl⟩ | ⟨a, i, x, h, rfl⟩ | ⟨C, rfl⟩ | ⟨t, rfl⟩
  · exact va_Nw.warmF hW (h5 _ hw')
  · exact va_Nw.warmM hW (h5 _ hw')
  · exact va_AO.moved hW.alike (h5 _ hw')
  · exact mi_AOA hW.alike (h5 _ hw')
theorem mi_U.calling {P : mi_P} {X : mi_X} {D : va_G} {dA : Nat → ClassId} {b0 : Nat} {xa : Nat → Nat} {U : State} (h : mi_U P X D dA b0 xa U) (hw : mi_nw P) (g : JFrame) (mk : MethodId) (a : Array Value) : mi_U P X D dA b0 xa (U.calling g mk a) := by
  obtain ⟨h1, h2, h3, h4, h5⟩ := h
  refine ⟨h1, va_K.moved (u := U) (U := U.calling g mk a) (Vm.Alike.refl U.vm) h2, fun x hx => (h3 x hx).moved (u := U) (U := U.calling g mk a) (Vm.Alike.refl U.vm), ⟨fun q hq => ⟨(h4.1 q hq).1, (h4.1 q hq).2.moved (u := U) (U := U.calling g mk a) (Vm.Alike.refl U.vm)⟩, hw.2.1 _ _ _ _ (State.WarmedH.refl U) h4.2⟩, fun w hw' => ?_⟩
  rcases hw.1 w hw' with ⟨a, i, b, n, d, h, rfl⟩ | ⟨a, i, x, h, rfl⟩ | ⟨C, rfl⟩ | ⟨t, rfl⟩
  · exact va_Nw.same rfl rfl (h5 _ hw')
  · exact va_Nw.same rfl rfl (h5 _ hw')
  · exact va_AO.moved (u := U) (Vm.Alike.refl U.vm) (h5 _ hw')
  · exact mi_AOA (u := U) (Vm.Alike.refl U.vm) (h5 _ hw')
theorem mi_blind {P : mi_P} {X : mi_X} {D : va_G} {dA : Nat → ClassId} {b0 : Nat} {xa : Nat → Nat} {av : List Value} {h : mi_H} (hw : mi_nw P) : FrameBlind (va_Pc av (fun U => mi_U P X D dA b0 xa U ∧ mi_R P D dA b0 xa U.heap h)) :=
  fun a U g mk q => ⟨q.1, q.2.1.calling hw g mk a, q.2.2⟩
theorem mi_back {P : mi_P} {D : va_G} {dA : Nat → ClassId} {b0 : Nat} {xa : Nat → Nat} {p : Program} {l : Launch} {e : Env} {R : Room} {s : State} {m : MethodId} {args : Array Value} {below : List Frame} {meth : Method} {c : Code} {H : Heap} {locs : List Loc} {cells slots mc ms pc : Nat} {Z : State → Prop} {ls : Array Slot} {st0 rest : List Value} {Q : Option Value → mi_H → Prop} (hb0 : b0 ≤ s.heap.size)
    (hr : va_Run p l e R s m args below meth c H locs cells slots mc ms (F0 m pc ls st0) rest (fun st o t => (∃ (r : Option Value) (h1 : mi_H), o = .returned (r.map (mi_V (mi_ad P.2.2.2.2.2.1 b0 xa))) ∧ Q r h1 ∧ mi_R P D dA b0 xa t.heap h1) ∧ va_F (fun q => b0 ≤ q) st t) (fun q => b0 ≤ q)) (hS : va_S (fun q => b0 ≤ q) s.heap H locs)
    (kk : ∀ (r : Option Value) (h1 : mi_H) (H1 : Heap) (locs1 : List Loc), Q r h1 → mi_R P D dA b0 xa H1 h1 → va_S (fun q => b0 ≤ q) s.heap H1 locs1 → W p l e R s m args below meth c H1 locs1 (cells + mc) (slots + ms) Z (F0 m (pc + 3) ls ((r.map (mi_V (mi_ad P.2.2.2.2.2.1 b0 xa))).toList ++ rest))) : W p l e R s m args below meth c H locs cells slots Z (F0 m pc ls st0) := by
  intro T hT Xs
  obtain ⟨v, st₀, t, T', L, h0, X', hL, e1, e2, ⟨⟨r, h1, hv, hq, hR1⟩, hz, hk⟩, st⟩ := hr T hT Xs
  cases hv
  rw [h0] at hz hk
  obtain ⟨t2, a1, b1⟩ := kk r h1 T'.heap (locs ++ L) hq (by rw [e1]; exact hR1)
    ⟨Nat.le_trans hS.1 (by rw [e1]; exact hz), fun q h1 h2 => by rw [e1, hk q (Nat.lt_of_lt_of_le h1 hS.1) h2]; exact hS.2.1 q h1 h2, fun q hq => by
      rcases List.mem_append.mp hq with h | h
      · exact hS.2.2 q h
      · exact hL q h⟩ T' rfl X'
  exact ⟨t2, st t2 a1, b1⟩
/-- the words of a call of the method k' from own's pool at idx, with n arguments -/
def mi_cw (P : mi_P) (own : String) (idx k' n : Nat) : Prop := (Cond.code (P.2.2.2.1 k').1 (P.2.2.2.1 k').2.1 (P.2.2.2.1 k').2.2.1 (P.2.2.2.1 k').2.2.2 ∈ P.2.1 ∧ Cond.initialized (P.2.2.2.1 k').1.cls ∈ P.2.1 ∧ (P.2.2.2.1 k').2.2.1 ≤ 13) ∧
  (P.2.2.2.1 k').1.cls ≠ "java/lang/invoke/MethodHandle" ∧ (P.2.2.2.1 k').1.cls ≠ "java/lang/invoke/VarHandle" ∧ (parseMethodDescriptor (P.2.2.2.1 k').1.desc).map (fun d => d.parameters.length) = some n
def mi_cV (P : mi_P) (own : String) (idx k' n : Nat) : Prop := mi_cw P own idx k' n ∧ Cond.methodLink own idx (P.2.2.2.1 k').1 ∈ P.2.1 ∧ Cond.instanceMethod (P.2.2.2.1 k').1 ∈ P.2.1 ∧ Cond.selects (P.2.2.2.1 k').1.cls (P.2.2.2.1 k').1 (P.2.2.2.1 k').1 ∈ P.2.1
def mi_cS (P : mi_P) (own : String) (idx k' n : Nat) : Prop := mi_cw P own idx k' n ∧ Cond.methodLink own idx (P.2.2.2.1 k').1 ∈ P.2.1 ∧ Cond.static (P.2.2.2.1 k').1 ∈ P.2.1
def mi_cI (P : mi_P) (own : String) (idx k' n : Nat) : Prop := mi_cw P own idx k' n ∧ (P.2.2.2.1 k').1.name = "<init>" ∧ (P.2.2.2.1 k').2.2.2 = none ∧ Cond.instanceMethod (P.2.2.2.1 k').1 ∈ P.2.1 ∧ (Cond.methodLink own idx (P.2.2.2.1 k').1 ∈ P.2.1 ∨ ∃ host, Cond.methodLinkNest own idx (P.2.2.2.1 k').1 host ∈ P.2.2.1)
theorem mi_good {P : mi_P} (hg : ∀ w ∈ P.2.1, (w.onTables && w.keeps) = true ∨ ∃ ty, w = .arrayClass ty) {ws : List Cond} (h : ∀ w ∈ ws, w ∈ P.2.1) : GoodIn P.2.1 ws := fun w hw => ⟨h w hw, hg w (h w hw)⟩
theorem mi_sum (ad : Nat → Nat) (st : List Value) : ((st.map (mi_V ad)).map fun v => v.category).sum = (st.map fun v => v.category).sum := by
  rw [List.map_map, show ((fun v : Value => v.category) ∘ mi_V ad) = fun v => v.category from funext fun v => mi_V_cat _ v]
section MIC
variable {QX : Nat → Nat → mi_H → Prop} {P : mi_P} {X : mi_X} {k d mc ms pc : Nat} {lv : mi_L} {st : List Value} {h : mi_H} {Q : Option Value → mi_H → Prop} {tb : List (Nat × Instr)}
set_option maxHeartbeats 4000000 in
theorem mi_callV (ht : mi_tb (P.2.2.2.1 k).2.1 tb) {index k' d' mc' ms' b ci n : Nat} {As : List Value} {fs : List Value} {Q' : Option Value → mi_H → Prop} (hi : mi_at tb pc = some (.invokevirtual index)) (cw : mi_cV P (P.2.2.2.1 k).1.cls index k' n) (hn : As.length = n) (hd : d' + 1 ≤ d) (hE : P.2.2.2.2.2.1 ≤ b) (hb' : b < h.1) (hc : h.2 b = .inr (ci, fs)) (hci : (P.1[ci]?).map (·.1) = some (P.2.2.2.1 k').1.cls) (hst : (st.map fun v => v.category).sum ≤ 8)
    (hS' : mi_S P X k' d' (.ref b :: As) h mc' ms' Q') (w : ∀ (r : Option Value) (h1 : mi_H), Q' r h1 → mi_WX QX P X k d mc ms (pc + 3) lv (r.toList ++ st) h1 Q) : mi_WX QX P X k d (mc + mc') (ms + ms') pc lv (As.reverse ++ .ref b :: st) h Q := by
  intro p l e R s m args below meth c H locs cells slots Z D dA b0 xa ls F hS hmc hms hR hl hZ
  have F0' := F
  obtain ⟨hx, hb, hml, hown, hts, hnm, hg, hnw, hf1, hf2, hU⟩ := F
  obtain ⟨⟨⟨w1, w2, w3⟩, w4⟩, w5, w6, w7⟩ := cw
  have he := mi_w_at (dA := dA) (E := P.2.2.2.2.2.1) (b0 := b0) (xa := xa) (h := h) hE hb'
  rw [hc] at he
  obtain ⟨q, hq1, hq2⟩ := Option.map_eq_some_iff.mp hci
  have hrec := va_recv hU.2.1 hR.2.2 hq1 he
  rw [hq2] at hrec
  have hws : ∀ w ∈ wsV (P.2.2.2.1 k).1.cls index (P.2.2.2.1 k').1.cls (P.2.2.2.1 k').1 (.code (P.2.2.2.1 k').1 (P.2.2.2.1 k').2.1 (P.2.2.2.1 k').2.2.1 (P.2.2.2.1 k').2.2.2 :: P.2.1), w ∈ P.2.1 := by
    intro w hw
    rcases List.mem_append.mp hw with h1 | h1
    · simp only [List.mem_cons, List.not_mem_nil, or_false] at h1
      rcases h1 with rfl | rfl | rfl | rfl <;> assumption
    · rcases List.mem_cons.mp h1 with rfl | h1
      · exact w1
      · exact h1
  have e0 : (As.reverse ++ .ref b :: st).map (mi_V (mi_ad P.2.2.2.2.2.1 b0 xa)) = (As.map (mi_V (mi_ad P.2.2.2.2.2.1 b0 xa))).reverse ++ .ref (mi_ad P.2.2.2.2.2.1 b0 xa b) :: st.map (mi_V (mi_ad P.2.2.2.2.2.1 b0 xa)) := by
    rw [List.map_append, List.map_reverse]; rfl
  rw [e0]
  refine mi_back hU.1 (va_runV ⟨hx, hb, hml, hown, hts⟩ (hS' l F0'.2.2.2.2.2.1.2.2 D dA b0 xa) (cwV n hts (mi_good hg hws) rfl rfl rfl ⟨rfl, w4⟩ ⟨by show d' + 1 ≤ R.frames; omega, by show 8 + (_ + 11) + 32 * d' ≤ R.locals; omega⟩) ⟨mi_blind hnw, hrec, fun U hU' hW => ⟨rfl, hU.go hS hnw hU' hW, by rw [hU']; exact hR⟩⟩ rfl (by rw [List.length_map]; exact hn) hl.1 rfl (lv_room (by rw [mi_sum]; exact hst)) (ht pc _ (mi_at_mem hi)) ⟨by omega, by omega⟩) hS (fun r h1 H1 locs1 hQ hR1 hS1 => ?_)
  have hw := w r h1 hQ p l e R s m args below meth c H1 locs1 (cells + mc') (slots + ms') Z D dA b0 xa ls F0' hS1 (by omega) (by omega) hR1 hl hZ
  rw [List.map_append] at hw
  cases r <;> exact hw
set_option maxHeartbeats 4000000 in
theorem mi_callS (ht : mi_tb (P.2.2.2.1 k).2.1 tb) {index k' d' mc' ms' n : Nat} {As : List Value} {Q' : Option Value → mi_H → Prop} (hi : mi_at tb pc = some (.invokestatic index)) (cw : mi_cS P (P.2.2.2.1 k).1.cls index k' n) (hn : As.length = n) (hd : d' + 1 ≤ d) (hst : (st.map fun v => v.category).sum ≤ 8)
    (hS' : mi_S P X k' d' As h mc' ms' Q') (w : ∀ (r : Option Value) (h1 : mi_H), Q' r h1 → mi_WX QX P X k d mc ms (pc + 3) lv (r.toList ++ st) h1 Q) : mi_WX QX P X k d (mc + mc') (ms + ms') pc lv (As.reverse ++ st) h Q := by
  intro p l e R s m args below meth c H locs cells slots Z D dA b0 xa ls F hS hmc hms hR hl hZ
  have F0' := F
  obtain ⟨hx, hb, hml, hown, hts, hnm, hg, hnw, hf1, hf2, hU⟩ := F
  obtain ⟨⟨⟨w1, w2, w3⟩, w4⟩, w5, w6⟩ := cw
  have hws : ∀ w ∈ va_wsS (P.2.2.2.1 k).1.cls index (P.2.2.2.1 k').1 (.code (P.2.2.2.1 k').1 (P.2.2.2.1 k').2.1 (P.2.2.2.1 k').2.2.1 (P.2.2.2.1 k').2.2.2 :: P.2.1), w ∈ P.2.1 := by
    intro w hw
    rcases List.mem_append.mp hw with h1 | h1
    · simp only [List.mem_cons, List.not_mem_nil, or_false] at h1
      rcases h1 with rfl | rfl | rfl <;> assumption
    · rcases List.mem_cons.mp h1 with rfl | h1
      · exact w1
      · exact h1
  have e0 : (As.reverse ++ st).map (mi_V (mi_ad P.2.2.2.2.2.1 b0 xa)) = (As.map (mi_V (mi_ad P.2.2.2.2.2.1 b0 xa))).reverse ++ st.map (mi_V (mi_ad P.2.2.2.2.2.1 b0 xa)) := by
    rw [List.map_append, List.map_reverse]
  rw [e0]
  refine mi_back hU.1 (va_runS ⟨hx, hb, hml, hown, hts⟩ (hS' l F0'.2.2.2.2.2.1.2.2 D dA b0 xa) (va_cwS n hts (mi_good hg hws) rfl rfl rfl w4 ⟨by show d' + 1 ≤ R.frames; omega, by show 8 + (_ + 11) + 32 * d' ≤ R.locals; omega⟩) ⟨mi_blind hnw, fun U hU' hW => ⟨rfl, hU.go hS hnw hU' hW, by rw [hU']; exact hR⟩⟩ rfl (by rw [List.length_map]; exact hn) hl.1 rfl (lv_room (by rw [mi_sum]; exact hst)) (ht pc _ (mi_at_mem hi)) ⟨by omega, by omega⟩) hS (fun r h1 H1 locs1 hQ hR1 hS1 => ?_)
  have hw := w r h1 hQ p l e R s m args below meth c H1 locs1 (cells + mc') (slots + ms') Z D dA b0 xa ls F0' hS1 (by omega) (by omega) hR1 hl hZ
  rw [List.map_append] at hw
  cases r <;> exact hw
set_option maxHeartbeats 4000000 in
theorem mi_callI (ht : mi_tb (P.2.2.2.1 k).2.1 tb) {index k' d' mc' ms' b n : Nat} {As : List Value} {Q' : Option Value → mi_H → Prop} (hi : mi_at tb pc = some (.invokespecial index)) (cw : mi_cI P (P.2.2.2.1 k).1.cls index k' n) (hn : As.length = n) (hd : d' + 1 ≤ d) (hst : (st.map fun v => v.category).sum ≤ 8)
    (hS' : mi_S P X k' d' (.ref b :: As) h mc' ms' Q') (w : ∀ (r : Option Value) (h1 : mi_H), Q' r h1 → mi_WX QX P X k d mc ms (pc + 3) lv (r.toList ++ st) h1 Q) : mi_WX QX P X k d (mc + mc') (ms + ms') pc lv (As.reverse ++ .ref b :: st) h Q := by
  intro p l e R s m args below meth c H locs cells slots Z D dA b0 xa ls F hS hmc hms hR hl hZ
  have F0' := F
  obtain ⟨hx, hb, hml, hown, hts, hnm, hg, hnw, hf1, hf2, hU⟩ := F
  obtain ⟨⟨⟨w1, w2, w3⟩, w4⟩, w5, w8, w6, w7⟩ := cw
  have hM := hS' l F0'.2.2.2.2.2.1.2.2 D dA b0 xa
  rw [w8] at w1 hM
  have hws : ∀ w ∈ (.code (P.2.2.2.1 k').1 (P.2.2.2.1 k').2.1 (P.2.2.2.1 k').2.2.1 none :: P.2.1), w ∈ P.2.1 := by
    intro w hw
    rcases List.mem_cons.mp hw with rfl | h1
    · exact w1
    · exact h1
  have e0 : (As.reverse ++ .ref b :: st).map (mi_V (mi_ad P.2.2.2.2.2.1 b0 xa)) = (As.map (mi_V (mi_ad P.2.2.2.2.2.1 b0 xa))).reverse ++ .ref (mi_ad P.2.2.2.2.2.1 b0 xa b) :: st.map (mi_V (mi_ad P.2.2.2.2.2.1 b0 xa)) := by
    rw [List.map_append, List.map_reverse]; rfl
  rw [e0]
  have hroom : d' + 1 ≤ R.frames ∧ 8 + ((P.2.2.2.1 k').2.2.1 + 11) + 32 * d' ≤ R.locals := ⟨by omega, by omega⟩
  have hpre : PreS s H (va_Pc ((Value.ref b :: As).map (mi_V (mi_ad P.2.2.2.2.2.1 b0 xa))) (fun U => mi_U P X D dA b0 xa U ∧ mi_R P D dA b0 xa U.heap h)) (.ref (mi_ad P.2.2.2.2.2.1 b0 xa b) :: As.map (mi_V (mi_ad P.2.2.2.2.2.1 b0 xa))) := ⟨mi_blind hnw, fun U hU' hW => ⟨rfl, hU.go hS hnw hU' hW, by rw [hU']; exact hR⟩⟩
  have hlast : ∀ (r : Option Value) (h1 : mi_H) (H1 : Heap) (locs1 : List Loc), Q' r h1 → mi_R P D dA b0 xa H1 h1 → va_S (fun q => b0 ≤ q) s.heap H1 locs1 → W p l e R s m args below meth c H1 locs1 (cells + mc') (slots + ms') Z (F0 m (pc + 3) ls ((r.map (mi_V (mi_ad P.2.2.2.2.2.1 b0 xa))).toList ++ st.map (mi_V (mi_ad P.2.2.2.2.2.1 b0 xa)))) := by
    intro r h1 H1 locs1 hQ hR1 hS1
    have hw := w r h1 hQ p l e R s m args below meth c H1 locs1 (cells + mc') (slots + ms') Z D dA b0 xa ls F0' hS1 (by omega) (by omega) hR1 hl hZ
    rw [List.map_append] at hw
    cases r <;> exact hw
  rcases w7 with w7 | ⟨host, w7⟩
  · exact mi_back hU.1 (va_runI ⟨hx, hb, hml, hown, hts⟩ hM (cwI n hts (mi_good hg hws) rfl rfl rfl (hts _ w2) (hts _ w7) (hts _ w6) w5 w4 hroom) hpre rfl (by rw [List.length_map]; exact hn) hl.1 rfl (lv_room (by rw [mi_sum]; exact hst)) (ht pc _ (mi_at_mem hi)) ⟨by omega, by omega⟩) hS hlast
  · exact mi_back hU.1 (va_runIN ⟨hx, hb, hml, hown, hts⟩ hM ⟨va_cnB n hts (mi_good hg hws) rfl rfl rfl (hU.2.2.2.2 _ w7) (hts _ w2) w4 hroom, w5, hts _ w6⟩ hpre rfl (by rw [List.length_map]; exact hn) hl.1 rfl (lv_room (by rw [mi_sum]; exact hst)) (ht pc _ (mi_at_mem hi)) ⟨by omega, by omega⟩) hS hlast
end MIC
