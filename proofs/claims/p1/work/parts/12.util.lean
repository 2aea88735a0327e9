-- cells changed, as a word
def mi_set (h : mi_H) (a : Nat) (c : mi_C) : mi_H := (h.1, va_up h.2 a c)
theorem mi_set_1 {h : mi_H} {a : Nat} {c : mi_C} : (mi_set h a c).1 = h.1 := rfl
theorem mi_set_self {h : mi_H} {a : Nat} {c : mi_C} : (mi_set h a c).2 a = c := if_pos rfl
theorem mi_set_ne {h : mi_H} {a b : Nat} {c : mi_C} (hn : b ≠ a) : (mi_set h a c).2 b = h.2 b := if_neg hn
theorem mi_set_set {h : mi_H} {a : Nat} {c c' : mi_C} : mi_set (mi_set h a c) a c' = mi_set h a c' := by
  unfold mi_set
  refine Prod.ext rfl (funext fun b => ?_)
  show (if b = a then c' else if b = a then c else h.2 b) = if b = a then c' else h.2 b
  by_cases e : b = a
  · rw [if_pos e, if_pos e]
  · rw [if_neg e, if_neg e, if_neg e]
theorem mi_set_same {h : mi_H} {a : Nat} {c : mi_C} (hc : h.2 a = c) : mi_set h a c = h := by
  unfold mi_set
  refine Prod.ext rfl (funext fun b => ?_)
  show (if b = a then c else h.2 b) = h.2 b
  by_cases e : b = a
  · rw [if_pos e, e, hc]
  · rw [if_neg e]
theorem mi_set_comm {h : mi_H} {a b : Nat} {c c' : mi_C} (hn : a ≠ b) : mi_set (mi_set h a c) b c' = mi_set (mi_set h b c') a c := by
  unfold mi_set
  refine Prod.ext rfl (funext fun x => ?_)
  show (if x = b then c' else if x = a then c else h.2 x) = if x = a then c else if x = b then c' else h.2 x
  by_cases e : x = a
  · subst e
    rw [if_pos rfl, if_neg hn, if_pos rfl]
  · rw [if_neg e, if_neg e]
section MIE
variable {QX : Nat → Nat → mi_H → Prop} {P : mi_P} {X : mi_X} {k d mc ms pc : Nat} {lv : mi_L} {st : List Value} {h : mi_H} {Q : Option Value → mi_H → Prop} {tb : List (Nat × Instr)}
theorem mi_ret_i (ht : mi_tb (P.2.2.2.1 k).2.1 tb) {v : Int32} {ty : FieldType} (hi : mi_at tb pc = some .ireturn) (hr : (P.2.2.2.1 k).2.2.2 = some ty) (hn : narrow ty (.int v) = .int v) (hQ : Q (some (.int v)) h) : mi_WX QX P X k d mc ms pc lv [.int v] h Q := mi_ret (some (.int v)) ⟨ht pc _ (mi_at_mem hi), ty, hr, hn⟩ hQ
theorem mi_ret_l (ht : mi_tb (P.2.2.2.1 k).2.1 tb) {v : Int64} (hi : mi_at tb pc = some .lreturn) (hr : (P.2.2.2.1 k).2.2.2 = some .long) (hQ : Q (some (.long v)) h) : mi_WX QX P X k d mc ms pc lv [.long v] h Q := mi_ret (some (.long v)) ⟨ht pc _ (mi_at_mem hi), hr⟩ hQ
theorem mi_ret_d (ht : mi_tb (P.2.2.2.1 k).2.1 tb) {v : UInt64} (hi : mi_at tb pc = some .dreturn) (hr : (P.2.2.2.1 k).2.2.2 = some .double) (hQ : Q (some (.double v)) h) : mi_WX QX P X k d mc ms pc lv [.double v] h Q := mi_ret (some (.double v)) ⟨ht pc _ (mi_at_mem hi), hr⟩ hQ
theorem mi_ret_f (ht : mi_tb (P.2.2.2.1 k).2.1 tb) {v : UInt32} (hi : mi_at tb pc = some .freturn) (hr : (P.2.2.2.1 k).2.2.2 = some .float) (hQ : Q (some (.float v)) h) : mi_WX QX P X k d mc ms pc lv [.float v] h Q := mi_ret (some (.float v)) ⟨ht pc _ (mi_at_mem hi), hr⟩ hQ
theorem mi_ret_a (ht : mi_tb (P.2.2.2.1 k).2.1 tb) {a : Nat} {rt : FieldType} (hi : mi_at tb pc = some .areturn) (hr : (P.2.2.2.1 k).2.2.2 = some rt) (hrt : (∃ n, rt = .object n) ∨ ∃ t, rt = .array t) (hQ : Q (some (.ref a)) h) : mi_WX QX P X k d mc ms pc lv [.ref a] h Q := mi_ret (some (.ref a)) ⟨ht pc _ (mi_at_mem hi), rt, hr, hrt⟩ hQ
theorem mi_ret_v (ht : mi_tb (P.2.2.2.1 k).2.1 tb) (hi : mi_at tb pc = some .return_) (hr : (P.2.2.2.1 k).2.2.2 = none) (hQ : Q none h) : mi_WX QX P X k d mc ms pc lv [] h Q := mi_ret none ⟨ht pc _ (mi_at_mem hi), hr⟩ hQ
theorem mi_putf' (ht : mi_tb (P.2.2.2.1 k).2.1 tb) {index ci j a : Nat} {ty : FieldType} {fs : List Value} {v : Value} (hi : mi_at tb pc = some (.putfield index)) (fd : mi_fd P (P.2.2.2.1 k).1.cls index ci j false ty) (hE : P.2.2.2.2.2.1 ≤ a) (ha : a < h.1) (hc : h.2 a = .inr (ci, fs)) {fs' : List Value} (hfs : fs.set j v = fs') (hj : j < fs.length) (hn : narrow ty v = v) (hf : fits ty v = true)
    (w : mi_WX QX P X k d mc ms (pc + 3) lv st (mi_set h a (.inr (ci, fs'))) Q) : mi_WX QX P X k d mc ms pc lv (v :: .ref a :: st) h Q := by
  subst hfs
  exact mi_putf ht hi fd hE ha hc hj hn hf w
theorem mi_putF' (ht : mi_tb (P.2.2.2.1 k).2.1 tb) {index ci j a : Nat} {ty : FieldType} {fs : List Value} {v : Value} (hi : mi_at tb pc = some (.putfield index)) (fd : mi_fd P (P.2.2.2.1 k).1.cls index ci j true ty) (hnam : (P.2.2.2.1 k).1.name = "<init>") (hE : P.2.2.2.2.2.1 ≤ a) (ha : a < h.1) (hc : h.2 a = .inr (ci, fs)) {fs' : List Value} (hfs : fs.set j v = fs') (hj : j < fs.length) (hn : narrow ty v = v) (hf : fits ty v = true)
    (w : mi_WX QX P X k d mc ms (pc + 3) lv st (mi_set h a (.inr (ci, fs'))) Q) : mi_WX QX P X k d mc ms pc lv (v :: .ref a :: st) h Q := by
  subst hfs
  exact mi_putF ht hi fd hnam hE ha hc hj hn hf w
/-- Math's three -/
theorem mi_abs (ht : mi_tb (P.2.2.2.1 k).2.1 tb) {index : Nat} {x : Int32} (hi : mi_at tb pc = some (.invokestatic index)) (h1 : Cond.methodLink (P.2.2.2.1 k).1.cls index Lib.Math.abs.name ∈ P.2.1) (h2 : Cond.static Lib.Math.abs.name ∈ P.2.1) (h3 : Cond.initialized "java/lang/Math" ∈ P.2.1) (h4 : Cond.code Lib.Math.abs.name Lib.Math.abs.code 1 (some .int) ∈ P.2.1) (hd : 1 ≤ d) (hst : (st.map fun v => v.category).sum ≤ 8)
    (w : mi_WX QX P X k d mc ms (pc + 3) lv (.int (if 0 ≤ x then x else 0 - x) :: st) h Q) : mi_WX QX P X k d mc ms pc lv (.int x :: st) h Q := by
  intro p l e R s m args below meth c H locs cells slots Z D dA b0 xa ls F hS hmc hms hR hl hZ
  have hw := w p l e R s m args below meth c H locs cells slots Z D dA b0 xa ls F hS hmc hms hR hl hZ
  obtain ⟨hx, hb, hml, hown, hts, hnm, -, -, hf1, hf2, hz0, hK, -, -, hNw⟩ := F
  exact va_mabs hx hb (hml.trans hl.1.symm) hown (hts _ h1) (hts _ h2) (hts _ h3) (hts _ h4) (by omega) (by rw [mi_sum]; omega) (by omega) (by omega) (ht pc _ (mi_at_mem hi)) hw
theorem mi_max (ht : mi_tb (P.2.2.2.1 k).2.1 tb) {index : Nat} {x y : Int32} (hi : mi_at tb pc = some (.invokestatic index)) (h1 : Cond.methodLink (P.2.2.2.1 k).1.cls index Lib.Math.max.name ∈ P.2.1) (h2 : Cond.static Lib.Math.max.name ∈ P.2.1) (h3 : Cond.initialized "java/lang/Math" ∈ P.2.1) (h4 : Cond.code Lib.Math.max.name Lib.Math.max.code 2 (some .int) ∈ P.2.1) (hd : 1 ≤ d) (hst : (st.map fun v => v.category).sum ≤ 8)
    (w : mi_WX QX P X k d mc ms (pc + 3) lv (.int (if x < y then y else x) :: st) h Q) : mi_WX QX P X k d mc ms pc lv (.int y :: .int x :: st) h Q := by
  intro p l e R s m args below meth c H locs cells slots Z D dA b0 xa ls F hS hmc hms hR hl hZ
  have hw := w p l e R s m args below meth c H locs cells slots Z D dA b0 xa ls F hS hmc hms hR hl hZ
  obtain ⟨hx, hb, hml, hown, hts, hnm, -, -, hf1, hf2, hz0, hK, -, -, hNw⟩ := F
  exact va_mmax hx hb (hml.trans hl.1.symm) hown (hts _ h1) (hts _ h2) (hts _ h3) (hts _ h4) (by omega) (by rw [mi_sum]; omega) (by omega) (by omega) (ht pc _ (mi_at_mem hi)) hw
theorem mi_min (ht : mi_tb (P.2.2.2.1 k).2.1 tb) {index : Nat} {x y : Int32} (hi : mi_at tb pc = some (.invokestatic index)) (h1 : Cond.methodLink (P.2.2.2.1 k).1.cls index Lib.Math.min.name ∈ P.2.1) (h2 : Cond.static Lib.Math.min.name ∈ P.2.1) (h3 : Cond.initialized "java/lang/Math" ∈ P.2.1) (h4 : Cond.code Lib.Math.min.name Lib.Math.min.code 2 (some .int) ∈ P.2.1) (hd : 1 ≤ d) (hst : (st.map fun v => v.category).sum ≤ 8)
    (w : mi_WX QX P X k d mc ms (pc + 3) lv (.int (if y < x then y else x) :: st) h Q) : mi_WX QX P X k d mc ms pc lv (.int y :: .int x :: st) h Q := by
  intro p l e R s m args below meth c H locs cells slots Z D dA b0 xa ls F hS hmc hms hR hl hZ
  have hw := w p l e R s m args below meth c H locs cells slots Z D dA b0 xa ls F hS hmc hms hR hl hZ
  obtain ⟨hx, hb, hml, hown, hts, hnm, -, -, hf1, hf2, hz0, hK, -, -, hNw⟩ := F
  exact va_mmin hx hb (hml.trans hl.1.symm) hown (hts _ h1) (hts _ h2) (hts _ h3) (hts _ h4) (by omega) (by rw [mi_sum]; omega) (by omega) (by omega) (ht pc _ (mi_at_mem hi)) hw
end MIE
