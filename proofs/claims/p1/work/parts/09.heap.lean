-- cells read and written
/-- a kind of objects of the program: its place, name, fields, their number and types -/
def mi_cf (P : mi_P) (ci : Nat) (C : String) (T : u_T) (N : Nat) (ty0 : Nat → FieldType) : Prop := P.1[ci]? = some (C, T, N) ∧ (∀ w ∈ u_ws C T N, w ∈ P.2.1) ∧ (∀ k, k < N → parseFieldDescriptor (T k).2.2.1 = some (ty0 k)) ∧ ∀ a, a < N → ∀ b, b < N → a ≠ b → (T a).2.1 ≠ (T b).2.1
/-- the entry 'index' of own's pool is the field j of the kind ci -/
def mi_fd (P : mi_P) (own : String) (index ci j : Nat) (fin : Bool) (ty : FieldType) : Prop := ∃ (C : String) (T : u_T) (N : Nat) (ty0 : Nat → FieldType), mi_cf P ci C T N ty0 ∧ j < N ∧ (T j).2.2.2 = fin ∧ ty0 j = ty ∧
  (Cond.fieldLink own index (T j).1 (T j).2.1 (T j).2.2.1 ∈ P.2.1 ∨ ∃ host, Cond.fieldLinkNest own index (T j).1 (T j).2.1 (T j).2.2.1 host ∈ P.2.2.1) ∧ (fin = true → (T j).1 = own ∧ Cond.fieldLink own index (T j).1 (T j).2.1 (T j).2.2.1 ∈ P.2.1)
/-- ... to be read -/
def mi_fg (P : mi_P) (own : String) (index ci j : Nat) : Prop := ∃ (C : String) (T : u_T) (N : Nat) (ty0 : Nat → FieldType), mi_cf P ci C T N ty0 ∧ j < N ∧ (Cond.fieldLink own index (T j).1 (T j).2.1 (T j).2.2.1 ∈ P.2.1 ∨ ∃ host, Cond.fieldLinkNest own index (T j).1 (T j).2.1 (T j).2.2.1 host ∈ P.2.2.1)
theorem mi_tys_at {P : mi_P} {dA : Nat → ClassId} {t : Nat} {ty : FieldType} (h : P.2.2.2.2.1[t]? = some ty) : (mi_tys P dA)[t]? = some (dA t, ty) := by
  unfold mi_tys
  rw [List.getElem?_map, List.getElem?_zipIdx, h]
  simp
theorem mi_narrow {ty : FieldType} {v : Value} (ad : Nat → Nat) (h : narrow ty v = v) : narrow ty (mi_V ad v) = mi_V ad v := by
  cases v <;> first | exact h | (cases ty <;> rfl)
theorem mi_fits {ty : FieldType} {v : Value} (ad : Nat → Nat) (h : fits ty v = true) : fits ty (mi_V ad v) = true := by
  cases v <;> first | exact h | (cases ty <;> first | rfl | exact h)
theorem mi_R.put {P : mi_P} {D : va_G} {dA : Nat → ClassId} {b0 : Nat} {xa : Nat → Nat} {H H1 : Heap} {h : mi_H} {a : Nat} (hR : mi_R P D dA b0 xa H h) (hE : P.2.2.2.2.2.1 ≤ a) (ha : a < h.1) (c : mi_C) (e : va_at D P.1 (mi_ad P.2.2.2.2.2.1 b0 xa a, mi_e dA (mi_ad P.2.2.2.2.2.1 b0 xa) c) H1) (z : H1.size = H.size) (oq : ∀ q : Nat, q ≠ mi_ad P.2.2.2.2.2.1 b0 xa a → H1[q]? = H[q]?) : mi_R P D dA b0 xa H1 (h.1, va_up h.2 a c) := by
  obtain ⟨h1, h2, h3⟩ := hR
  refine ⟨h1, z.trans h2, ?_⟩
  rw [← mi_w_set hE ha c]
  exact h3.set mi_w_D (mi_w_at hE ha) e oq
theorem mi_ad_in {E b0 : Nat} {xa : Nat → Nat} {a : Nat} (h : E ≤ a) : b0 ≤ mi_ad E b0 xa a := by
  unfold mi_ad
  rw [if_neg (by omega)]
  omega
section MIH
variable {QX : Nat → Nat → mi_H → Prop} {P : mi_P} {X : mi_X} {k d mc ms pc : Nat} {lv : mi_L} {st : List Value} {h : mi_H} {Q : Option Value → mi_H → Prop} {tb : List (Nat × Instr)}
set_option maxHeartbeats 4000000 in
theorem mi_getf (ht : mi_tb (P.2.2.2.1 k).2.1 tb) {index ci j a : Nat} {fs : List Value} {v : Value} (hi : mi_at tb pc = some (.getfield index)) (fd : mi_fg P (P.2.2.2.1 k).1.cls index ci j) (hE : P.2.2.2.2.2.1 ≤ a) (ha : a < h.1) (hc : h.2 a = .inr (ci, fs)) (hv : fs[j]? = some v)
    (w : mi_WX QX P X k d mc ms (pc + 3) lv (v :: st) h Q) : mi_WX QX P X k d mc ms pc lv (.ref a :: st) h Q := by
  intro p l e R s m args below meth c H locs cells slots Z D dA b0 xa ls F hS hmc hms hR hl hZ
  obtain ⟨C, T, N, ty0, ⟨c1, c2, c3, c4⟩, f1, f4⟩ := fd
  have hw := w p l e R s m args below meth c H locs cells slots Z D dA b0 xa ls F hS hmc hms hR hl hZ
  obtain ⟨hx, hb, hml, hown, hts, hnm, -, -, -, -, hz0, hK, -, -, hN⟩ := F
  have hd := ht pc _ (mi_at_mem hi)
  have he := mi_w_at (dA := dA) (E := P.2.2.2.2.2.1) (b0 := b0) (xa := xa) (h := h) hE ha
  rw [hc] at he
  have hv' : (fs.map (mi_V (mi_ad P.2.2.2.2.2.1 b0 xa)))[j]? = some (mi_V (mi_ad P.2.2.2.2.2.1 b0 xa) v) := by rw [List.getElem?_map, hv]; rfl
  rcases f4 with f4 | ⟨host, f4⟩
  · exact va_get hx hb hts c2 hown hK hR.2.2 (a - P.2.2.2.2.2.1) he c1 j f1 (hts _ f4) (fun _ q => q) hv' hd hw
  · exact va_getN hx hb hts c2 hown hK hR.2.2 (a - P.2.2.2.2.2.1) he c1 j f1 (va_Nw.use rfl (hN _ f4)) (fun _ q => q) hv' hd hw
set_option maxHeartbeats 4000000 in
theorem mi_putf (ht : mi_tb (P.2.2.2.1 k).2.1 tb) {index ci j a : Nat} {ty : FieldType} {fs : List Value} {v : Value} (hi : mi_at tb pc = some (.putfield index)) (fd : mi_fd P (P.2.2.2.1 k).1.cls index ci j false ty) (hE : P.2.2.2.2.2.1 ≤ a) (ha : a < h.1) (hc : h.2 a = .inr (ci, fs)) (hj : j < fs.length) (hn : narrow ty v = v) (hf : fits ty v = true)
    (w : mi_WX QX P X k d mc ms (pc + 3) lv st (h.1, va_up h.2 a (.inr (ci, fs.set j v))) Q) : mi_WX QX P X k d mc ms pc lv (v :: .ref a :: st) h Q := by
  intro p l e R s m args below meth c H locs cells slots Z D dA b0 xa ls F hS hmc hms hR hl hZ
  obtain ⟨C, T, N, ty0, ⟨c1, c2, c3, c4⟩, f1, f2, f3, f4, -⟩ := fd
  have F0' := F
  obtain ⟨hx, hb, hml, hown, hts, hnm, -, -, -, -, hz0, hK, -, -, hN⟩ := F
  have hd := ht pc _ (mi_at_mem hi)
  have he := mi_w_at (dA := dA) (E := P.2.2.2.2.2.1) (b0 := b0) (xa := xa) (h := h) hE ha
  rw [hc] at he
  have hap := va_apart (own := (P.2.2.2.1 k).1.cls) hts c2 ty0 c3 c4 hK c1
  obtain ⟨r, h1, cell, q1, q2, q3, q4⟩ := hR.2.2 _ _ he
  have hr : r = (C, T, N) := Option.some.inj (h1.symm.trans c1)
  subst hr
  obtain ⟨hSf, hfc, kC, hkC, hkind⟩ := hK.1 ci _ c1
  obtain ⟨cf, kf, fi, f, hff, hsl⟩ := hSf j f1
  have hlay := hts _ (c2 _ (u_in_lay f1))
  unfold u_lay at hlay
  rw [if_neg (by rw [f2]; decide)] at hlay
  have hst := (u_facts hfc hkC (u_lays hts c2 f1) hff).1
  have h6 := u_store hfc hkC hkind hlay hff (by rw [c3 j f1, f3]) (mi_narrow (mi_ad P.2.2.2.2.2.1 b0 xa) hn) (mi_fits (mi_ad P.2.2.2.2.2.1 b0 xa) hf)
  have hlen : j < (fs.map (mi_V (mi_ad P.2.2.2.2.2.1 b0 xa))).length := by rw [List.length_map]; exact hj
  have kk : ∀ H' : Heap, H'[mi_ad P.2.2.2.2.2.1 b0 xa a]? = some (cell.setSlot f.slot (mi_V (mi_ad P.2.2.2.2.2.1 b0 xa) v)) → H'.size = H.size → (∀ q, q ≠ mi_ad P.2.2.2.2.2.1 b0 xa a → H'[q]? = H[q]?) → W p l e R s m args below meth c H' (locs ++ [⟨mi_ad P.2.2.2.2.2.1 b0 xa a, f.slot⟩]) cells slots Z (F0 m (pc + 3) ls (st.map (mi_V (mi_ad P.2.2.2.2.2.1 b0 xa)))) := by
    intro H' e1 e2 e3
    rw [hsl] at e1 ⊢
    refine w p l e R s m args below meth c H' _ cells slots Z D dA b0 xa ls F0' (hS.put e2 e3 (mi_ad_in hE)) hmc hms (hR.put hE ha _ ?_ e2 e3) hl hZ
    show va_at D P.1 (_, .inr (ci, (fs.set j v).map (mi_V (mi_ad P.2.2.2.2.2.1 b0 xa)))) H'
    rw [List.map_set]
    exact ⟨_, c1, t_OB.to (V := updV (vp_V _) j (mi_V (mi_ad P.2.2.2.2.2.1 b0 xa) v)) ⟨_, e1, q2, q3, t_set q4 hap f1 _⟩ (fun i _ => vp_updV_set hlen _ i)⟩
  rcases f4 with f4 | ⟨host, f4⟩
  · exact W.putK hx hb (f := f) ⟨hown, hts _ f4, ⟨_, _, _, hff⟩, hst⟩ (by rw [q2]; exact h6) q1 q3 (by rw [hsl]; exact k2_hasslot (q4 j f1)) rfl rfl hd kk
  · exact va_WputK hx hb (f := f) hown (va_Nw.use rfl (hN _ f4)) hff hst (by rw [q2]; exact h6) q1 q3 (by rw [hsl]; exact k2_hasslot (q4 j f1)) rfl rfl hd kk
set_option maxHeartbeats 4000000 in
theorem mi_putF (ht : mi_tb (P.2.2.2.1 k).2.1 tb) {index ci j a : Nat} {ty : FieldType} {fs : List Value} {v : Value} (hi : mi_at tb pc = some (.putfield index)) (fd : mi_fd P (P.2.2.2.1 k).1.cls index ci j true ty) (hnam : (P.2.2.2.1 k).1.name = "<init>") (hE : P.2.2.2.2.2.1 ≤ a) (ha : a < h.1) (hc : h.2 a = .inr (ci, fs)) (hj : j < fs.length) (hn : narrow ty v = v) (hf : fits ty v = true)
    (w : mi_WX QX P X k d mc ms (pc + 3) lv st (h.1, va_up h.2 a (.inr (ci, fs.set j v))) Q) : mi_WX QX P X k d mc ms pc lv (v :: .ref a :: st) h Q := by
  intro p l e R s m args below meth c H locs cells slots Z D dA b0 xa ls F hS hmc hms hR hl hZ
  obtain ⟨C, T, N, ty0, ⟨c1, c2, c3, c4⟩, f1, f2, f3, -, f5⟩ := fd
  obtain ⟨f5, f6⟩ := f5 rfl
  have F0' := F
  obtain ⟨hx, hb, hml, hown, hts, hnm, -, -, -, -, hz0, hK, -, -, hN⟩ := F
  have hd := ht pc _ (mi_at_mem hi)
  have he := mi_w_at (dA := dA) (E := P.2.2.2.2.2.1) (b0 := b0) (xa := xa) (h := h) hE ha
  rw [hc] at he
  have hap := va_apart (own := (P.2.2.2.1 k).1.cls) hts c2 ty0 c3 c4 hK c1
  obtain ⟨r, h1, cell, q1, q2, q3, q4⟩ := hR.2.2 _ _ he
  have hr : r = (C, T, N) := Option.some.inj (h1.symm.trans c1)
  subst hr
  obtain ⟨hSf, hfc, kC, hkC, hkind⟩ := hK.1 ci _ c1
  obtain ⟨cf, kf, fi, f, hff, hsl⟩ := hSf j f1
  have hlay := hts _ (c2 _ (u_in_lay f1))
  unfold u_lay at hlay
  rw [if_pos f2] at hlay
  have hst := (u_facts hfc hkC (u_lays hts c2 f1) hff).1
  have hcf : m.cls = cf := by
    obtain ⟨_, _, c', _, _, _, -, -, hf', -, -, -, hown2, -⟩ := Cond.laysFinal_spec hlay
    have e1 : c' = cf := by have := hff.symm.trans hf'; simp at this; exact this.1.symm
    rw [f5] at hown2
    rw [← e1]; exact Option.some.inj (hown.symm.trans hown2)
  have h6 := u_fits hfc hkC hkind (Or.inr hlay) hff (by rw [c3 j f1, f3]) (mi_narrow (mi_ad P.2.2.2.2.2.1 b0 xa) hn) (mi_fits (mi_ad P.2.2.2.2.2.1 b0 xa) hf)
  have hlen : j < (fs.map (mi_V (mi_ad P.2.2.2.2.2.1 b0 xa))).length := by rw [List.length_map]; exact hj
  refine W.putFinK hx hb hown (hts _ f6) hff hst hcf (hnm.1 hnam) (by rw [q2]; exact h6) q1 q3 (by rw [hsl]; exact k2_hasslot (q4 j f1)) rfl rfl hd fun H' e1 e2 e3 => ?_
  rw [hsl] at e1 ⊢
  refine w p l e R s m args below meth c H' _ cells slots Z D dA b0 xa ls F0' (hS.put e2 e3 (mi_ad_in hE)) hmc hms (hR.put hE ha _ ?_ e2 e3) hl hZ
  show va_at D P.1 (_, .inr (ci, (fs.set j v).map (mi_V (mi_ad P.2.2.2.2.2.1 b0 xa)))) H'
  rw [List.map_set]
  exact ⟨_, c1, t_OB.to (V := updV (vp_V _) j (mi_V (mi_ad P.2.2.2.2.2.1 b0 xa) v)) ⟨_, e1, q2, q3, t_set q4 hap f1 _⟩ (fun i _ => vp_updV_set hlen _ i)⟩
end MIH
