-- a stretch of straight instructions
def mi_at (tb : List (Nat × Instr)) (pc : Nat) : Option Instr := match tb with
  | [] => none
  | q :: r => if q.1 = pc then some q.2 else mi_at r pc
theorem mi_at_mem {tb : List (Nat × Instr)} {pc : Nat} {i : Instr} (h : mi_at tb pc = some i) : (pc, i) ∈ tb := by
  induction tb with
  | nil => cases h
  | cons q r ih =>
    unfold mi_at at h
    by_cases e : q.1 = pc
    · rw [if_pos e] at h
      cases h
      subst e
      exact List.mem_cons_self
    · rw [if_neg e] at h
      exact List.mem_cons_of_mem _ (ih h)
def mi_run (nL : Nat) (tb : List (Nat × Instr)) : Nat → Nat → mi_L → List Value → mi_O
  | 0, pc, lv, st => some (pc, lv, st)
  | n + 1, pc, lv, st => match mi_at tb pc with
    | none => none
    | some i => match mi_p nL i pc lv st with
      | none => none
      | some z => mi_run nL tb n z.1 z.2.1 z.2.2
def mi_tb (cc : ByteArray) (tb : List (Nat × Instr)) : Prop := ∀ (pc : Nat) (i : Instr), (pc, i) ∈ tb → decode cc pc = .ok (i, mi_len i)
theorem mi_tb.of {cc : ByteArray} {tb : List (Nat × Instr)} (h : ∀ q ∈ tb, decode cc q.1 = .ok (q.2, mi_len q.2)) : mi_tb cc tb := fun pc i hm => h (pc, i) hm
theorem mi_run_W {p : Program} {l : Launch} {e : Env} {R : Room} {s : State} {m : MethodId} {args : Array Value} {below : List Frame} {meth : Method} {c : Code} {H : Heap} {locs : List Loc} {cells slots : Nat} {Q : State → Prop} {ad : Nat → Nat} {cc : ByteArray} {nL : Nat} {tb : List (Nat × Instr)} (ht : mi_tb cc tb) (hx : p.tables.exec = Jvm.exec) (hb : c.code = cc) {pc' : Nat} {lv' : mi_L} {st' : List Value}
    (kk : ∀ ls' : Array Slot, lv_has ls' nL (mi_lv ad lv') → W p l e R s m args below meth c H locs cells slots Q (F0 m pc' ls' (st'.map (mi_V ad)))) : ∀ (n pc : Nat) (lv : mi_L) (st : List Value) (ls : Array Slot), mi_run nL tb n pc lv st = some (pc', lv', st') → lv_has ls nL (mi_lv ad lv) → W p l e R s m args below meth c H locs cells slots Q (F0 m pc ls (st.map (mi_V ad)))
  | 0, pc, lv, st, ls, hr, hl => by
    cases hr
    exact kk ls hl
  | n + 1, pc, lv, st, ls, hr, hl => by
    unfold mi_run at hr
    split at hr
    next => cases hr
    next i e1 =>
      split at hr
      next => cases hr
      next z e2 =>
        exact mi_p_W (ad := ad) (cc := cc) (nL := nL) (i := i) (pc := pc) (lv := lv) (st := st) (z := z) (ls := ls) hx hb (ht pc i (mi_at_mem e1)) e2 hl (fun ls' hl' => mi_run_W ht hx hb kk n z.1 z.2.1 z.2.2 ls' hr hl')
theorem mi_blk {QX : Nat → Nat → mi_H → Prop} {P : mi_P} {X : mi_X} {k d mc ms pc pc' : Nat} {lv lv' : mi_L} {st st' : List Value} {h : mi_H} {Q : Option Value → mi_H → Prop} {tb : List (Nat × Instr)} (ht : mi_tb (P.2.2.2.1 k).2.1 tb) (n : Nat) (hr : mi_run (P.2.2.2.1 k).2.2.1 tb n pc lv st = some (pc', lv', st'))
    (w : mi_WX QX P X k d mc ms pc' lv' st' h Q) : mi_WX QX P X k d mc ms pc lv st h Q := by
  intro p l e R s m args below meth c H locs cells slots Z D dA b0 xa ls F hS hc hs hR hl hZ
  exact mi_run_W ht F.1 F.2.1 (fun ls' hl' => w p l e R s m args below meth c H locs cells slots Z D dA b0 xa ls' F hS hc hs hR hl' hZ) n pc lv st ls hr hl
