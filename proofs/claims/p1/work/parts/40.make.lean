-- cells that are new, as a word
def mi_psh (h : mi_H) (c : mi_C) : mi_H := (h.1 + 1, va_up h.2 h.1 c)
theorem mi_psh_self {h : mi_H} {c : mi_C} : (mi_psh h c).2 h.1 = c := if_pos rfl
theorem mi_psh_lt {h : mi_H} {c : mi_C} {x : Nat} (hx : x < h.1) : (mi_psh h c).2 x = h.2 x := if_neg (Nat.ne_of_lt hx)
theorem mi_set_psh {h : mi_H} {c c' : mi_C} : mi_set (mi_psh h c) h.1 c' = mi_psh h c' := by
  unfold mi_set mi_psh
  refine Prod.ext rfl (funext fun b => ?_)
  show (if b = h.1 then c' else if b = h.1 then c else h.2 b) = if b = h.1 then c' else h.2 b
  by_cases e : b = h.1
  · rw [if_pos e, if_pos e]
  · rw [if_neg e, if_neg e, if_neg e]
/-- two rows of n rows each of m ints -/
def mi_mul (h : mi_H) (tO tI n m : Nat) : mi_H := (h.1 + 1 + n, fun a => if a = h.1 then .inl (tO, n, .inr (.inr (.inr (.inr (fun i => if i < n then some (h.1 + 1 + i) else none))))) else if h.1 < a ∧ a ≤ h.1 + n then .inl (tI, m, .inl (fun _ => 0)) else h.2 a)
theorem mi_w_get {dA : Nat → ClassId} {E b0 : Nat} {xa : Nat → Nat} {h : mi_H} (h1 : E ≤ h.1) {D : va_G} {cl : List vw_C} {H : Heap} (hat : ∀ a, E ≤ a → a < h.1 → va_at D cl (mi_ad E b0 xa a, mi_e dA (mi_ad E b0 xa) (h.2 a)) H) : va_P D cl (mi_w dA E b0 xa h) H := by
  intro k q hq
  obtain ⟨h2, rfl⟩ := mi_w_in hq
  exact hat (E + k) (by omega) h2
theorem vr_outer (c : ClassId) (N h0 : Nat) : ∀ i : Nat, Jvm.Free.Multi.outerC c N h0 i = arrV c N (fun j => va_rf (if j < i then some (h0 + 1 + j) else none))
  | 0 => by
    show ({ cls := c, slots := Array.replicate N .null, vm := .none } : Cell) = _
    rw [arrV_new]
    refine congrArg (arrV c N) (funext fun j => ?_)
    simp [va_rf]
  | i + 1 => by
    show (Jvm.Free.Multi.outerC c N h0 i).setSlot i (.ref (h0 + 1 + i)) = _
    rw [vr_outer c N h0 i, arrV_store]
    refine congrArg (arrV c N) (funext fun j => ?_)
    by_cases e : j = i
    · subst e
      simp [updV, va_rf]
    · by_cases h : j < i
      · simp [updV, e, h, Nat.lt_succ_of_lt h]
      · simp [updV, e, h, show ¬ j < i + 1 by omega]
section MIM
variable {QX : Nat → Nat → mi_H → Prop} {P : mi_P} {X : mi_X} {k d mc ms pc : Nat} {lv : mi_L} {st : List Value} {h : mi_H} {Q : Option Value → mi_H → Prop} {tb : List (Nat × Instr)}
set_option maxHeartbeats 4000000 in
theorem mi_mna (ht : mi_tb (P.2.2.2.1 k).2.1 tb) {index tO tI n m : Nat} (hi : mi_at tb pc = some (.multianewarray index 2)) (htO : P.2.2.2.2.1[tO]? = some (.array .int)) (htI : P.2.2.2.2.1[tI]? = some .int) (hcl : Cond.classLink (P.2.2.2.1 k).1.cls index ("[" ++ (FieldType.array .int).toString) ∈ P.2.1) (hov : Cond.arrayOver (.array .int) ∈ P.2.2.1) (har : Cond.arrayClass .int ∈ P.2.1) (hn : n < 1000) (hm : m < 1000)
    (w : mi_WX QX P X k d mc ms (pc + 4) lv (.ref h.1 :: st) (mi_mul h tO tI n m) Q) : mi_WX QX P X k d (mc + (1 + n)) (ms + (n + n * m)) pc lv (.int (nI m) :: .int (nI n) :: st) h Q := by
  intro p l e R s mm args below meth c H locs cells slots Z D dA b0 xa ls F hS hmc hms hR hl hZ
  have F0' := F
  obtain ⟨hx, hb, hml, hown, hts, hnm, -, -, -, -, hz0, hK, -, -, hNw⟩ := F
  obtain ⟨r1, r2, r3⟩ := hR
  have ea : mi_ad P.2.2.2.2.2.1 b0 xa h.1 = H.size := by
    unfold mi_ad
    rw [if_neg (by omega), r2]
  intro T hT Xs
  have en : (nI n).toNatClampNeg = n := nI_clamp (by omega)
  have em : (nI m).toNatClampNeg = m := nI_clamp (by omega)
  obtain ⟨vm₁, cA, comp, -, fA, fC, hO, -, X', step⟩ := Xs.multianewarray2F hx hown (hts _ hcl) (hNw _ hov) (hts _ har) (g := F0 mm pc ls (.int (nI m) :: .int (nI n) :: st.map (mi_V (mi_ad P.2.2.2.2.2.1 b0 xa)))) rfl (by rw [hb]; exact ht pc _ (mi_at_mem hi)) rfl (nI_pos (by omega)) (nI_pos (by omega)) (by rw [en]; omega) (by rw [em]; show m * 4 ≤ _; omega) (by rw [em]; omega) rfl rfl (by rw [en]; omega) (by rw [en, em]; omega)
  have hcA : cA = dA tO := Option.some.inj (fA.symm.trans (hK.2 tO _ (mi_tys_at htO)).2)
  have hcI : comp = dA tI := Option.some.inj (fC.symm.trans (hK.2 tI _ (mi_tys_at htI)).2)
  subst hcA
  subst hcI
  rw [en, em] at X' step
  generalize hF : Jvm.Free.Multi.fill (T.setVm vm₁) (dA tO) (dA tI) n m (defaultValue .int) n = F at X' step
  have hTh : (T.setVm vm₁).heap = H := hT
  obtain ⟨f1, f2, -, -⟩ := Jvm.Free.Multi.fill_facts (T.setVm vm₁) (dA tO) (dA tI) n m (defaultValue .int) n
  rw [hF, hTh] at f1 f2
  have hold : ∀ x : Nat, x < H.size → F.heap[x]? = H[x]? := fun x hx => by
    have := Jvm.Free.Multi.fill_old (T.setVm vm₁) (dA tO) (dA tI) n m (defaultValue .int) (a := x) (by rw [hTh]; exact hx) n
    rw [hF, hTh] at this
    exact this
  have hrow : ∀ j : Nat, j < n → F.heap[H.size + 1 + j]? = some (vp_cell (dA tI) (m, .inl (fun _ => 0))) := fun j hj => by
    have := Jvm.Free.Multi.fill_inner (T.setVm vm₁) (dA tO) (dA tI) n m (defaultValue .int) n j hj
    rw [hF, hTh] at this
    rw [this]
    refine congrArg some ?_
    show ({ cls := dA tI, slots := Array.replicate m (defaultValue .int), vm := .none } : Cell) = _
    rw [arrV_new]
    rfl
  rw [vr_outer] at f2
  have hR1 : mi_R P D dA b0 xa F.heap (mi_mul h tO tI n m) := by
    refine ⟨by show _ ≤ h.1 + 1 + n; omega, by rw [f1, r2]; show _ = b0 + (h.1 + 1 + n - _); omega, mi_w_get (by show _ ≤ h.1 + 1 + n; omega) (fun a h1 h2 => ?_)⟩
    have h2 : a < h.1 + 1 + n := h2
    by_cases e1 : a = h.1
    · subst e1
      rw [ea, show (mi_mul h tO tI n m).2 h.1 = .inl (tO, n, .inr (.inr (.inr (.inr (fun i => if i < n then some (h.1 + 1 + i) else none))))) from if_pos rfl]
      show F.heap[H.size]? = some (vp_cell (dA tO) (n, .inr (.inr (.inr (.inr (fun i => (if i < n then some (h.1 + 1 + i) else none).map (mi_ad P.2.2.2.2.2.1 b0 xa)))))))
      rw [f2, vp_cell_q]
      refine congrArg (fun g => some (arrV (dA tO) n g)) (funext fun i => congrArg va_rf ?_)
      by_cases hi' : i < n
      · rw [if_pos hi', if_pos hi', Option.map_some]
        refine congrArg some ?_
        unfold mi_ad
        rw [if_neg (by omega), r2]
        omega
      · rw [if_neg hi', if_neg hi', Option.map_none]
    · by_cases e2 : h.1 < a ∧ a ≤ h.1 + n
      · rw [show (mi_mul h tO tI n m).2 a = .inl (tI, m, .inl (fun _ => 0)) from (if_neg e1).trans (if_pos e2)]
        show F.heap[mi_ad P.2.2.2.2.2.1 b0 xa a]? = some (vp_cell (dA tI) (m, .inl (fun _ => 0)))
        rw [show mi_ad P.2.2.2.2.2.1 b0 xa a = H.size + 1 + (a - h.1 - 1) by unfold mi_ad; rw [if_neg (by omega), r2]; omega]
        exact hrow _ (by omega)
      · rw [show (mi_mul h tO tI n m).2 a = h.2 a from (if_neg e1).trans (if_neg e2)]
        have h3 : a < h.1 := by omega
        have h4 := r3 _ _ (mi_w_at h1 h3)
        exact h4.kept (hold _ h4.lt)
  have hS1 : va_S (fun q => b0 ≤ q) s.heap F.heap locs := ⟨Nat.le_trans hS.1 (by omega), fun x h1 h2 => (hold x (Nat.lt_of_lt_of_le h1 hS.1)).trans (hS.2.1 x h1 h2), hS.2.2⟩
  have hw := w p l e R s mm args below meth c F.heap locs (cells + 1 + n) (slots + n + n * m) Z D dA b0 xa ls F0' hS1 (by omega) (by omega) hR1 hl hZ
  rw [List.map_cons, show mi_V (mi_ad P.2.2.2.2.2.1 b0 xa) (.ref h.1) = .ref H.size from congrArg Value.ref ea] at hw
  obtain ⟨t, a1, b1⟩ := hw F rfl X'
  refine ⟨t, step t ?_, b1⟩
  rw [hT]
  exact a1
theorem mi_aaldA (ht : mi_tb (P.2.2.2.1 k).2.1 tb) {a t n : Nat} {f : Nat → Option Nat} {i : Int32} (hi : mi_at tb pc = some .aaload) (htt : P.2.2.2.2.1[t]? = some (.array .int)) (hE : P.2.2.2.2.2.1 ≤ a) (ha : a < h.1) (hc : h.2 a = .inl (t, n, .inr (.inr (.inr (.inr f))))) (hin : vp_in i n) (kk : mi_WX QX P X k d mc ms (pc + 1) lv (va_rf (f i.toNatClampNeg) :: st) h Q) : mi_WX QX P X k d mc ms pc lv (.int i :: .ref a :: st) h Q := by
  intro p l e R s m args below meth c H locs cells slots Z D dA b0 xa ls F hS hmc hms hR hl hZ
  have he := mi_w_at (dA := dA) (E := P.2.2.2.2.2.1) (b0 := b0) (xa := xa) (h := h) hE ha
  rw [hc] at he
  have hlt : i.toNatClampNeg < n := Nat.not_le.mp fun q => hin (Or.inr q)
  refine W.aald (v := va_rf ((f i.toNatClampNeg).map (mi_ad P.2.2.2.2.2.1 b0 xa))) (ty := .array .int) F.1 F.2.1 (hR.2.2 _ _ he) ((F.2.2.2.2.2.2.2.2.2.2.2.1.2 t _ (mi_tys_at htt)).1 n (fun j => va_rf ((f j).map (mi_ad P.2.2.2.2.2.1 b0 xa)))) rfl (fun q => by cases q) (by show ¬ (i < 0 ∨ (arrV _ _ _).slots.size ≤ _); rw [arrV_size]; exact hin) (by show (arrV _ _ _).slots[_]? = _; rw [arrV_read _ _ hlt]) rfl rfl (ht pc _ (mi_at_mem hi)) ?_
  rw [mi_rf]
  exact kk p l e R s m args below meth c H locs cells slots Z D dA b0 xa ls F hS hmc hms hR hl hZ
end MIM
