-- the straight instructions, as a function
def mi_len : Instr → Nat := fun i => match i with
  | .bipush _ | .iload _ | .lload _ | .fload _ | .dload _ | .aload _ | .istore _ | .lstore _ | .fstore _ | .dstore _ | .astore _ | .ldc _ | .newarray _ => 2
  | .sipush _ | .iinc _ _ | .goto _ | .ifCond _ _ | .if_icmp _ _ | .if_acmp _ _ | .ifnull _ | .ifnonnull _ | .getfield _ | .putfield _ | .getstatic _ | .putstatic _ | .ldc_w _ | .ldc2_w _ | .new _ | .anewarray _ | .invokevirtual _ | .invokespecial _ | .invokestatic _ | .checkcast _ | .instanceof _ => 3
  | .multianewarray _ _ => 4
  | .invokeinterface _ _ => 5
  | _ => 1
def mi_get (lv : mi_L) (i : Nat) : Option Value := match lv with
  | [] => none
  | q :: r => if q.1 = i then some q.2 else mi_get r i
theorem mi_get_mem {lv : mi_L} {i : Nat} {v : Value} (h : mi_get lv i = some v) : (i, v) ∈ lv := by
  induction lv with
  | nil => cases h
  | cons q r ih =>
    unfold mi_get at h
    by_cases e : q.1 = i
    · rw [if_pos e] at h
      cases h
      subst e
      exact List.mem_cons_self
    · rw [if_neg e] at h
      exact List.mem_cons_of_mem _ (ih h)
def mi_s1 (lv : mi_L) (i : Nat) (v : Value) : mi_L := (i, v) :: lv.filter (fun q => !(q.1 == i) && !(q.1 + 1 == i && q.2.category == 2))
def mi_s2 (lv : mi_L) (i : Nat) (v : Value) : mi_L := (i, v) :: lv.filter (fun q => !(q.1 == i) && (!(q.1 == i + 1) && !(q.1 + 1 == i && q.2.category == 2)))
theorem mi_s1_lv (ad : Nat → Nat) (lv : mi_L) (i : Nat) (v : Value) : (i, mi_V ad v) :: (mi_lv ad lv).filter (fun q => !(q.1 == i) && !(q.1 + 1 == i && q.2.category == 2)) = mi_lv ad (mi_s1 lv i v) := by
  unfold mi_s1 mi_lv
  rw [List.map_cons, List.filter_map]
  congr 2
  refine List.filter_congr fun q _ => ?_
  show (!(q.1 == i) && !(q.1 + 1 == i && (mi_V ad q.2).category == 2)) = _
  rw [mi_V_cat]
theorem mi_s2_lv (ad : Nat → Nat) (lv : mi_L) (i : Nat) (v : Value) : (i, mi_V ad v) :: (mi_lv ad lv).filter (fun q => !(q.1 == i) && (!(q.1 == i + 1) && !(q.1 + 1 == i && q.2.category == 2))) = mi_lv ad (mi_s2 lv i v) := by
  unfold mi_s2 mi_lv
  rw [List.map_cons, List.filter_map]
  congr 2
  refine List.filter_congr fun q _ => ?_
  show (!(q.1 == i) && (!(q.1 == i + 1) && !(q.1 + 1 == i && (mi_V ad q.2).category == 2))) = _
  rw [mi_V_cat]
def mi_iushr (x y : Int32) : Int32 := (x.toUInt32 >>> (y.toUInt32 &&& Int32.toUInt32 31)).toInt32
def mi_lushr (x : Int64) (y : Int32) : Int64 := (x.toUInt64 >>> (y.toInt64.toUInt64 &&& Int64.toUInt64 63)).toInt64
def mi_lshl (x : Int64) (y : Int32) : Int64 := x <<< (y.toInt64 &&& 63)
def mi_lshr (x : Int64) (y : Int32) : Int64 := x >>> (y.toInt64 &&& 63)
def mi_jump (pc : Nat) (off : Int) : Option Nat := match Int.ofNat pc + off with
  | .ofNat t => some t
  | .negSucc _ => none
theorem mi_jump_eq {pc : Nat} {off : Int} {t : Nat} (h : mi_jump pc off = some t) : (pc : Int) + off = (t : Int) := by
  unfold mi_jump at h
  split at h
  next t' e => cases h; exact e
  next => cases h
abbrev mi_O : Type := Option (Nat × mi_L × List Value)

def mi_fii (f : Int32 → Int32 → Int32) (n : Nat) (lv : mi_L) (st : List Value) : mi_O := match st with
  | .int y :: .int x :: r => some (n, lv, .int (f x y) :: r)
  | _ => none
theorem mi_fii_eq {f : Int32 → Int32 → Int32} {n : Nat} {lv : mi_L} {st : List Value} {z : Nat × mi_L × List Value} (h : mi_fii f n lv st = some z) : ∃ (x : Int32) (y : Int32) (r : List Value), st = .int y :: .int x :: r ∧ z = (n, lv, .int (f x y) :: r) := by
  unfold mi_fii at h
  split at h
  · cases h; exact ⟨_, _, _, rfl, rfl⟩
  · cases h
def mi_fll (f : Int64 → Int64 → Int64) (n : Nat) (lv : mi_L) (st : List Value) : mi_O := match st with
  | .long y :: .long x :: r => some (n, lv, .long (f x y) :: r)
  | _ => none
theorem mi_fll_eq {f : Int64 → Int64 → Int64} {n : Nat} {lv : mi_L} {st : List Value} {z : Nat × mi_L × List Value} (h : mi_fll f n lv st = some z) : ∃ (x : Int64) (y : Int64) (r : List Value), st = .long y :: .long x :: r ∧ z = (n, lv, .long (f x y) :: r) := by
  unfold mi_fll at h
  split at h
  · cases h; exact ⟨_, _, _, rfl, rfl⟩
  · cases h
def mi_fli (f : Int64 → Int32 → Int64) (n : Nat) (lv : mi_L) (st : List Value) : mi_O := match st with
  | .int y :: .long x :: r => some (n, lv, .long (f x y) :: r)
  | _ => none
theorem mi_fli_eq {f : Int64 → Int32 → Int64} {n : Nat} {lv : mi_L} {st : List Value} {z : Nat × mi_L × List Value} (h : mi_fli f n lv st = some z) : ∃ (x : Int64) (y : Int32) (r : List Value), st = .int y :: .long x :: r ∧ z = (n, lv, .long (f x y) :: r) := by
  unfold mi_fli at h
  split at h
  · cases h; exact ⟨_, _, _, rfl, rfl⟩
  · cases h
def mi_fi (f : Int32 → Int32) (n : Nat) (lv : mi_L) (st : List Value) : mi_O := match st with
  | .int x :: r => some (n, lv, .int (f x) :: r)
  | _ => none
theorem mi_fi_eq {f : Int32 → Int32} {n : Nat} {lv : mi_L} {st : List Value} {z : Nat × mi_L × List Value} (h : mi_fi f n lv st = some z) : ∃ (x : Int32) (r : List Value), st = .int x :: r ∧ z = (n, lv, .int (f x) :: r) := by
  unfold mi_fi at h
  split at h
  · cases h; exact ⟨_, _, rfl, rfl⟩
  · cases h
def mi_fl (f : Int64 → Int64) (n : Nat) (lv : mi_L) (st : List Value) : mi_O := match st with
  | .long x :: r => some (n, lv, .long (f x) :: r)
  | _ => none
theorem mi_fl_eq {f : Int64 → Int64} {n : Nat} {lv : mi_L} {st : List Value} {z : Nat × mi_L × List Value} (h : mi_fl f n lv st = some z) : ∃ (x : Int64) (r : List Value), st = .long x :: r ∧ z = (n, lv, .long (f x) :: r) := by
  unfold mi_fl at h
  split at h
  · cases h; exact ⟨_, _, rfl, rfl⟩
  · cases h
def mi_fil (f : Int32 → Int64) (n : Nat) (lv : mi_L) (st : List Value) : mi_O := match st with
  | .int x :: r => some (n, lv, .long (f x) :: r)
  | _ => none
theorem mi_fil_eq {f : Int32 → Int64} {n : Nat} {lv : mi_L} {st : List Value} {z : Nat × mi_L × List Value} (h : mi_fil f n lv st = some z) : ∃ (x : Int32) (r : List Value), st = .int x :: r ∧ z = (n, lv, .long (f x) :: r) := by
  unfold mi_fil at h
  split at h
  · cases h; exact ⟨_, _, rfl, rfl⟩
  · cases h
def mi_fl_i (f : Int64 → Int32) (n : Nat) (lv : mi_L) (st : List Value) : mi_O := match st with
  | .long x :: r => some (n, lv, .int (f x) :: r)
  | _ => none
theorem mi_fl_i_eq {f : Int64 → Int32} {n : Nat} {lv : mi_L} {st : List Value} {z : Nat × mi_L × List Value} (h : mi_fl_i f n lv st = some z) : ∃ (x : Int64) (r : List Value), st = .long x :: r ∧ z = (n, lv, .int (f x) :: r) := by
  unfold mi_fl_i at h
  split at h
  · cases h; exact ⟨_, _, rfl, rfl⟩
  · cases h
def mi_fll_i (f : Int64 → Int64 → Int32) (n : Nat) (lv : mi_L) (st : List Value) : mi_O := match st with
  | .long y :: .long x :: r => some (n, lv, .int (f x y) :: r)
  | _ => none
theorem mi_fll_i_eq {f : Int64 → Int64 → Int32} {n : Nat} {lv : mi_L} {st : List Value} {z : Nat × mi_L × List Value} (h : mi_fll_i f n lv st = some z) : ∃ (x : Int64) (y : Int64) (r : List Value), st = .long y :: .long x :: r ∧ z = (n, lv, .int (f x y) :: r) := by
  unfold mi_fll_i at h
  split at h
  · cases h; exact ⟨_, _, _, rfl, rfl⟩
  · cases h
def mi_fdd_i (f : UInt64 → UInt64 → Int32) (n : Nat) (lv : mi_L) (st : List Value) : mi_O := match st with
  | .double y :: .double x :: r => some (n, lv, .int (f x y) :: r)
  | _ => none
theorem mi_fdd_i_eq {f : UInt64 → UInt64 → Int32} {n : Nat} {lv : mi_L} {st : List Value} {z : Nat × mi_L × List Value} (h : mi_fdd_i f n lv st = some z) : ∃ (x : UInt64) (y : UInt64) (r : List Value), st = .double y :: .double x :: r ∧ z = (n, lv, .int (f x y) :: r) := by
  unfold mi_fdd_i at h
  split at h
  · cases h; exact ⟨_, _, _, rfl, rfl⟩
  · cases h
def mi_fff_i (f : UInt32 → UInt32 → Int32) (n : Nat) (lv : mi_L) (st : List Value) : mi_O := match st with
  | .float y :: .float x :: r => some (n, lv, .int (f x y) :: r)
  | _ => none
theorem mi_fff_i_eq {f : UInt32 → UInt32 → Int32} {n : Nat} {lv : mi_L} {st : List Value} {z : Nat × mi_L × List Value} (h : mi_fff_i f n lv st = some z) : ∃ (x : UInt32) (y : UInt32) (r : List Value), st = .float y :: .float x :: r ∧ z = (n, lv, .int (f x y) :: r) := by
  unfold mi_fff_i at h
  split at h
  · cases h; exact ⟨_, _, _, rfl, rfl⟩
  · cases h
def mi_fid (f : Int32 → UInt64) (n : Nat) (lv : mi_L) (st : List Value) : mi_O := match st with
  | .int x :: r => some (n, lv, .double (f x) :: r)
  | _ => none
theorem mi_fid_eq {f : Int32 → UInt64} {n : Nat} {lv : mi_L} {st : List Value} {z : Nat × mi_L × List Value} (h : mi_fid f n lv st = some z) : ∃ (x : Int32) (r : List Value), st = .int x :: r ∧ z = (n, lv, .double (f x) :: r) := by
  unfold mi_fid at h
  split at h
  · cases h; exact ⟨_, _, rfl, rfl⟩
  · cases h
def mi_fd_i (f : UInt64 → Int32) (n : Nat) (lv : mi_L) (st : List Value) : mi_O := match st with
  | .double x :: r => some (n, lv, .int (f x) :: r)
  | _ => none
theorem mi_fd_i_eq {f : UInt64 → Int32} {n : Nat} {lv : mi_L} {st : List Value} {z : Nat × mi_L × List Value} (h : mi_fd_i f n lv st = some z) : ∃ (x : UInt64) (r : List Value), st = .double x :: r ∧ z = (n, lv, .int (f x) :: r) := by
  unfold mi_fd_i at h
  split at h
  · cases h; exact ⟨_, _, rfl, rfl⟩
  · cases h
def mi_fd_l (f : UInt64 → Int64) (n : Nat) (lv : mi_L) (st : List Value) : mi_O := match st with
  | .double x :: r => some (n, lv, .long (f x) :: r)
  | _ => none
theorem mi_fd_l_eq {f : UInt64 → Int64} {n : Nat} {lv : mi_L} {st : List Value} {z : Nat × mi_L × List Value} (h : mi_fd_l f n lv st = some z) : ∃ (x : UInt64) (r : List Value), st = .double x :: r ∧ z = (n, lv, .long (f x) :: r) := by
  unfold mi_fd_l at h
  split at h
  · cases h; exact ⟨_, _, rfl, rfl⟩
  · cases h
def mi_fif (f : Int32 → UInt32) (n : Nat) (lv : mi_L) (st : List Value) : mi_O := match st with
  | .int x :: r => some (n, lv, .float (f x) :: r)
  | _ => none
theorem mi_fif_eq {f : Int32 → UInt32} {n : Nat} {lv : mi_L} {st : List Value} {z : Nat × mi_L × List Value} (h : mi_fif f n lv st = some z) : ∃ (x : Int32) (r : List Value), st = .int x :: r ∧ z = (n, lv, .float (f x) :: r) := by
  unfold mi_fif at h
  split at h
  · cases h; exact ⟨_, _, rfl, rfl⟩
  · cases h
def mi_fld (f : Int64 → UInt64) (n : Nat) (lv : mi_L) (st : List Value) : mi_O := match st with
  | .long x :: r => some (n, lv, .double (f x) :: r)
  | _ => none
theorem mi_fld_eq {f : Int64 → UInt64} {n : Nat} {lv : mi_L} {st : List Value} {z : Nat × mi_L × List Value} (h : mi_fld f n lv st = some z) : ∃ (x : Int64) (r : List Value), st = .long x :: r ∧ z = (n, lv, .double (f x) :: r) := by
  unfold mi_fld at h
  split at h
  · cases h; exact ⟨_, _, rfl, rfl⟩
  · cases h
def mi_ld_i (n i : Nat) (lv : mi_L) (st : List Value) : mi_O := match mi_get lv i with
  | some (.int x) => some (n, lv, .int x :: st)
  | _ => none
theorem mi_ld_i_eq {n i : Nat} {lv : mi_L} {st : List Value} {z : Nat × mi_L × List Value} (h : mi_ld_i n i lv st = some z) : ∃ x : Int32, mi_get lv i = some (.int x) ∧ z = (n, lv, .int x :: st) := by
  unfold mi_ld_i at h
  split at h
  next x e => cases h; exact ⟨x, e, rfl⟩
  next => cases h
def mi_st_i (n i nL : Nat) (lv : mi_L) (st : List Value) : mi_O := match st with
  | .int x :: r => if i < nL then some (n, mi_s1 lv i (.int x), r) else none
  | _ => none
theorem mi_st_i_eq {n i nL : Nat} {lv : mi_L} {st : List Value} {z : Nat × mi_L × List Value} (h : mi_st_i n i nL lv st = some z) : i < nL ∧ ∃ (x : Int32) (r : List Value), st = .int x :: r ∧ z = (n, mi_s1 lv i (.int x), r) := by
  unfold mi_st_i at h
  split at h
  next x r =>
    by_cases e : i < nL
    · rw [if_pos e] at h; cases h; exact ⟨e, x, r, rfl, rfl⟩
    · rw [if_neg e] at h; cases h
  next => cases h
def mi_ld_l (n i : Nat) (lv : mi_L) (st : List Value) : mi_O := match mi_get lv i with
  | some (.long x) => some (n, lv, .long x :: st)
  | _ => none
theorem mi_ld_l_eq {n i : Nat} {lv : mi_L} {st : List Value} {z : Nat × mi_L × List Value} (h : mi_ld_l n i lv st = some z) : ∃ x : Int64, mi_get lv i = some (.long x) ∧ z = (n, lv, .long x :: st) := by
  unfold mi_ld_l at h
  split at h
  next x e => cases h; exact ⟨x, e, rfl⟩
  next => cases h
def mi_st_l (n i nL : Nat) (lv : mi_L) (st : List Value) : mi_O := match st with
  | .long x :: r => if i + 1 < nL then some (n, mi_s2 lv i (.long x), r) else none
  | _ => none
theorem mi_st_l_eq {n i nL : Nat} {lv : mi_L} {st : List Value} {z : Nat × mi_L × List Value} (h : mi_st_l n i nL lv st = some z) : i + 1 < nL ∧ ∃ (x : Int64) (r : List Value), st = .long x :: r ∧ z = (n, mi_s2 lv i (.long x), r) := by
  unfold mi_st_l at h
  split at h
  next x r =>
    by_cases e : i + 1 < nL
    · rw [if_pos e] at h; cases h; exact ⟨e, x, r, rfl, rfl⟩
    · rw [if_neg e] at h; cases h
  next => cases h
def mi_ld_f (n i : Nat) (lv : mi_L) (st : List Value) : mi_O := match mi_get lv i with
  | some (.float x) => some (n, lv, .float x :: st)
  | _ => none
theorem mi_ld_f_eq {n i : Nat} {lv : mi_L} {st : List Value} {z : Nat × mi_L × List Value} (h : mi_ld_f n i lv st = some z) : ∃ x : UInt32, mi_get lv i = some (.float x) ∧ z = (n, lv, .float x :: st) := by
  unfold mi_ld_f at h
  split at h
  next x e => cases h; exact ⟨x, e, rfl⟩
  next => cases h
def mi_st_f (n i nL : Nat) (lv : mi_L) (st : List Value) : mi_O := match st with
  | .float x :: r => if i < nL then some (n, mi_s1 lv i (.float x), r) else none
  | _ => none
theorem mi_st_f_eq {n i nL : Nat} {lv : mi_L} {st : List Value} {z : Nat × mi_L × List Value} (h : mi_st_f n i nL lv st = some z) : i < nL ∧ ∃ (x : UInt32) (r : List Value), st = .float x :: r ∧ z = (n, mi_s1 lv i (.float x), r) := by
  unfold mi_st_f at h
  split at h
  next x r =>
    by_cases e : i < nL
    · rw [if_pos e] at h; cases h; exact ⟨e, x, r, rfl, rfl⟩
    · rw [if_neg e] at h; cases h
  next => cases h
def mi_ld_d (n i : Nat) (lv : mi_L) (st : List Value) : mi_O := match mi_get lv i with
  | some (.double x) => some (n, lv, .double x :: st)
  | _ => none
theorem mi_ld_d_eq {n i : Nat} {lv : mi_L} {st : List Value} {z : Nat × mi_L × List Value} (h : mi_ld_d n i lv st = some z) : ∃ x : UInt64, mi_get lv i = some (.double x) ∧ z = (n, lv, .double x :: st) := by
  unfold mi_ld_d at h
  split at h
  next x e => cases h; exact ⟨x, e, rfl⟩
  next => cases h
def mi_st_d (n i nL : Nat) (lv : mi_L) (st : List Value) : mi_O := match st with
  | .double x :: r => if i + 1 < nL then some (n, mi_s2 lv i (.double x), r) else none
  | _ => none
theorem mi_st_d_eq {n i nL : Nat} {lv : mi_L} {st : List Value} {z : Nat × mi_L × List Value} (h : mi_st_d n i nL lv st = some z) : i + 1 < nL ∧ ∃ (x : UInt64) (r : List Value), st = .double x :: r ∧ z = (n, mi_s2 lv i (.double x), r) := by
  unfold mi_st_d at h
  split at h
  next x r =>
    by_cases e : i + 1 < nL
    · rw [if_pos e] at h; cases h; exact ⟨e, x, r, rfl, rfl⟩
    · rw [if_neg e] at h; cases h
  next => cases h
def mi_ld_a (n i : Nat) (lv : mi_L) (st : List Value) : mi_O := match mi_get lv i with
  | some (.ref x) => some (n, lv, .ref x :: st)
  | some .null => some (n, lv, .null :: st)
  | _ => none
theorem mi_ld_a_eq {n i : Nat} {lv : mi_L} {st : List Value} {z : Nat × mi_L × List Value} (h : mi_ld_a n i lv st = some z) : (∃ x : Nat, mi_get lv i = some (.ref x) ∧ z = (n, lv, .ref x :: st)) ∨ (mi_get lv i = some .null ∧ z = (n, lv, .null :: st)) := by
  unfold mi_ld_a at h
  split at h
  next x e => cases h; exact Or.inl ⟨x, e, rfl⟩
  next e => cases h; exact Or.inr ⟨e, rfl⟩
  next => cases h
def mi_st_a (n i nL : Nat) (lv : mi_L) (st : List Value) : mi_O := match st with
  | .ref x :: r => if i < nL then some (n, mi_s1 lv i (.ref x), r) else none
  | .null :: r => if i < nL then some (n, mi_s1 lv i .null, r) else none
  | _ => none
theorem mi_st_a_eq {n i nL : Nat} {lv : mi_L} {st : List Value} {z : Nat × mi_L × List Value} (h : mi_st_a n i nL lv st = some z) : i < nL ∧ ((∃ (x : Nat) (r : List Value), st = .ref x :: r ∧ z = (n, mi_s1 lv i (.ref x), r)) ∨ ∃ r : List Value, st = .null :: r ∧ z = (n, mi_s1 lv i .null, r)) := by
  unfold mi_st_a at h
  split at h
  next x r =>
    by_cases e : i < nL
    · rw [if_pos e] at h; cases h; exact ⟨e, Or.inl ⟨x, r, rfl, rfl⟩⟩
    · rw [if_neg e] at h; cases h
  next r =>
    by_cases e : i < nL
    · rw [if_pos e] at h; cases h; exact ⟨e, Or.inr ⟨r, rfl, rfl⟩⟩
    · rw [if_neg e] at h; cases h
  next => cases h
def mi_inc (n i nL : Nat) (k : Int) (lv : mi_L) (st : List Value) : mi_O := match mi_get lv i with
  | some (.int x) => if i < nL then some (n, mi_s1 lv i (.int (x + Int32.ofInt k)), st) else none
  | _ => none
theorem mi_inc_eq {n i nL : Nat} {k : Int} {lv : mi_L} {st : List Value} {z : Nat × mi_L × List Value} (h : mi_inc n i nL k lv st = some z) : i < nL ∧ ∃ x : Int32, mi_get lv i = some (.int x) ∧ z = (n, mi_s1 lv i (.int (x + Int32.ofInt k)), st) := by
  unfold mi_inc at h
  split at h
  next x e =>
    by_cases e' : i < nL
    · rw [if_pos e'] at h; cases h; exact ⟨e', x, e, rfl⟩
    · rw [if_neg e'] at h; cases h
  next => cases h
def mi_pop (n : Nat) (lv : mi_L) (st : List Value) : mi_O := match st with
  | v :: r => if v.category = 1 then some (n, lv, r) else none
  | _ => none
def mi_dup (n : Nat) (lv : mi_L) (st : List Value) : mi_O := match st with
  | v :: r => if v.category = 1 then some (n, lv, v :: v :: r) else none
  | _ => none
def mi_dup_x1 (n : Nat) (lv : mi_L) (st : List Value) : mi_O := match st with
  | v :: u :: r => if v.category = 1 ∧ u.category = 1 then some (n, lv, v :: u :: v :: r) else none
  | _ => none
def mi_dup2 (n : Nat) (lv : mi_L) (st : List Value) : mi_O := match st with
  | v :: u :: r => if v.category = 1 ∧ u.category = 1 then some (n, lv, v :: u :: v :: u :: r) else none
  | _ => none
def mi_pop2 (n : Nat) (lv : mi_L) (st : List Value) : mi_O := match st with
  | v :: r => if v.category = 2 then some (n, lv, r) else none
  | _ => none
theorem mi_pop_eq {n : Nat} {lv : mi_L} {st : List Value} {z : Nat × mi_L × List Value} (h : mi_pop n lv st = some z) : ∃ (v : Value) (r : List Value), (v.category = 1) ∧ st = v :: r ∧ z = (n, lv, r) := by
  unfold mi_pop at h
  split at h
  next v r =>
    by_cases e : v.category = 1
    · rw [if_pos e] at h; cases h; exact ⟨_, _, e, rfl, rfl⟩
    · rw [if_neg e] at h; cases h
  next => cases h
theorem mi_dup_eq {n : Nat} {lv : mi_L} {st : List Value} {z : Nat × mi_L × List Value} (h : mi_dup n lv st = some z) : ∃ (v : Value) (r : List Value), (v.category = 1) ∧ st = v :: r ∧ z = (n, lv, v :: v :: r) := by
  unfold mi_dup at h
  split at h
  next v r =>
    by_cases e : v.category = 1
    · rw [if_pos e] at h; cases h; exact ⟨_, _, e, rfl, rfl⟩
    · rw [if_neg e] at h; cases h
  next => cases h
theorem mi_dup_x1_eq {n : Nat} {lv : mi_L} {st : List Value} {z : Nat × mi_L × List Value} (h : mi_dup_x1 n lv st = some z) : ∃ (v u : Value) (r : List Value), (v.category = 1 ∧ u.category = 1) ∧ st = v :: u :: r ∧ z = (n, lv, v :: u :: v :: r) := by
  unfold mi_dup_x1 at h
  split at h
  next v u r =>
    by_cases e : v.category = 1 ∧ u.category = 1
    · rw [if_pos e] at h; cases h; exact ⟨_, _, _, e, rfl, rfl⟩
    · rw [if_neg e] at h; cases h
  next => cases h
theorem mi_dup2_eq {n : Nat} {lv : mi_L} {st : List Value} {z : Nat × mi_L × List Value} (h : mi_dup2 n lv st = some z) : ∃ (v u : Value) (r : List Value), (v.category = 1 ∧ u.category = 1) ∧ st = v :: u :: r ∧ z = (n, lv, v :: u :: v :: u :: r) := by
  unfold mi_dup2 at h
  split at h
  next v u r =>
    by_cases e : v.category = 1 ∧ u.category = 1
    · rw [if_pos e] at h; cases h; exact ⟨_, _, _, e, rfl, rfl⟩
    · rw [if_neg e] at h; cases h
  next => cases h
theorem mi_pop2_eq {n : Nat} {lv : mi_L} {st : List Value} {z : Nat × mi_L × List Value} (h : mi_pop2 n lv st = some z) : ∃ (v : Value) (r : List Value), (v.category = 2) ∧ st = v :: r ∧ z = (n, lv, r) := by
  unfold mi_pop2 at h
  split at h
  next v r =>
    by_cases e : v.category = 2
    · rw [if_pos e] at h; cases h; exact ⟨_, _, e, rfl, rfl⟩
    · rw [if_neg e] at h; cases h
  next => cases h
def mi_p (nL : Nat) (i : Instr) (pc : Nat) (lv : mi_L) (st : List Value) : mi_O := match i with
  | .iconst n => some (pc + 1, lv, .int (Int32.ofInt n) :: st)
  | .bipush n => some (pc + 2, lv, .int (Int8.ofInt n).toInt32 :: st)
  | .sipush n => some (pc + 3, lv, .int (Int16.ofInt n).toInt32 :: st)
  | .lconst n => some (pc + 1, lv, .long (Int64.ofNat (n : Nat)) :: st)
  | .aconst_null => some (pc + 1, lv, .null :: st)
  | .iload i => mi_ld_i (pc + 2) i lv st
  | .iload_n i => mi_ld_i (pc + 1) i lv st
  | .lload i => mi_ld_l (pc + 2) i lv st
  | .lload_n i => mi_ld_l (pc + 1) i lv st
  | .fload i => mi_ld_f (pc + 2) i lv st
  | .fload_n i => mi_ld_f (pc + 1) i lv st
  | .dload i => mi_ld_d (pc + 2) i lv st
  | .dload_n i => mi_ld_d (pc + 1) i lv st
  | .aload i => mi_ld_a (pc + 2) i lv st
  | .aload_n i => mi_ld_a (pc + 1) i lv st
  | .istore i => mi_st_i (pc + 2) i nL lv st
  | .istore_n i => mi_st_i (pc + 1) i nL lv st
  | .lstore i => mi_st_l (pc + 2) i nL lv st
  | .lstore_n i => mi_st_l (pc + 1) i nL lv st
  | .fstore i => mi_st_f (pc + 2) i nL lv st
  | .fstore_n i => mi_st_f (pc + 1) i nL lv st
  | .dstore i => mi_st_d (pc + 2) i nL lv st
  | .dstore_n i => mi_st_d (pc + 1) i nL lv st
  | .astore i => mi_st_a (pc + 2) i nL lv st
  | .astore_n i => mi_st_a (pc + 1) i nL lv st
  | .iinc i n => mi_inc (pc + 3) i nL n lv st
  | .iadd => mi_fii (fun x y => x + y) (pc + 1) lv st
  | .isub => mi_fii (fun x y => x - y) (pc + 1) lv st
  | .imul => mi_fii (fun x y => x * y) (pc + 1) lv st
  | .iand => mi_fii (fun x y => x &&& y) (pc + 1) lv st
  | .ior => mi_fii (fun x y => x ||| y) (pc + 1) lv st
  | .ixor => mi_fii (fun x y => x ^^^ y) (pc + 1) lv st
  | .ladd => mi_fll (fun x y => x + y) (pc + 1) lv st
  | .lsub => mi_fll (fun x y => x - y) (pc + 1) lv st
  | .lmul => mi_fll (fun x y => x * y) (pc + 1) lv st
  | .land => mi_fll (fun x y => x &&& y) (pc + 1) lv st
  | .lor => mi_fll (fun x y => x ||| y) (pc + 1) lv st
  | .lxor => mi_fll (fun x y => x ^^^ y) (pc + 1) lv st
  | .ishl => mi_fii (fun x y => x <<< (y &&& 31)) (pc + 1) lv st
  | .ishr => mi_fii (fun x y => x >>> (y &&& 31)) (pc + 1) lv st
  | .iushr => mi_fii mi_iushr (pc + 1) lv st
  | .lshl => mi_fli mi_lshl (pc + 1) lv st
  | .lshr => mi_fli mi_lshr (pc + 1) lv st
  | .lushr => mi_fli mi_lushr (pc + 1) lv st
  | .ineg => mi_fi (fun x => -x) (pc + 1) lv st
  | .lneg => mi_fl (fun x => -x) (pc + 1) lv st
  | .i2l => mi_fil (fun x => x.toInt64) (pc + 1) lv st
  | .l2i => mi_fl_i (fun x => x.toInt32) (pc + 1) lv st
  | .lcmp => mi_fll_i lg_cmp (pc + 1) lv st
  | .i2d => mi_fid FP.i2d (pc + 1) lv st
  | .d2i => mi_fd_i FP.d2i (pc + 1) lv st
  | .d2l => mi_fd_l FP.d2l (pc + 1) lv st
  | .i2f => mi_fif FP.i2f (pc + 1) lv st
  | .l2d => mi_fld FP.l2d (pc + 1) lv st
  | .dcmp o => mi_fdd_i (fun x y => Op.cmpValue (FP.dcmp x y) o) (pc + 1) lv st
  | .fcmp o => mi_fff_i (fun x y => Op.cmpValue (FP.fcmp x y) o) (pc + 1) lv st
  | .pop => mi_pop (pc + 1) lv st
  | .dup => mi_dup (pc + 1) lv st
  | .dup_x1 => mi_dup_x1 (pc + 1) lv st
  | .dup2 => mi_dup2 (pc + 1) lv st
  | .pop2 => mi_pop2 (pc + 1) lv st
  | .goto o => (mi_jump pc o).map (fun t => (t, lv, st))
  | .fconst n => some (pc + 1, lv, .float (match n with | 0 => FP.fconst0 | 1 => FP.fconst1 | 2 => FP.fconst2) :: st)
  | .dconst n => some (pc + 1, lv, .double (match n with | 0 => FP.dconst0 | 1 => FP.dconst1) :: st)
  | _ => none
theorem mi_mem_l {ad : Nat → Nat} {lv : mi_L} {i : Nat} {v : Value} (h : mi_get lv i = some v) : (i, mi_V ad v) ∈ mi_lv ad lv := List.mem_map.mpr ⟨(i, v), mi_get_mem h, rfl⟩
theorem mi_at_l {ad : Nat → Nat} {ls : Array Slot} {nL : Nat} {lv : mi_L} {i : Nat} {v : Value} (hl : lv_has ls nL (mi_lv ad lv)) (h : mi_get lv i = some v) : ls[i]? = some (.val (mi_V ad v)) := hl.2.2 (i, mi_V ad v) (mi_mem_l h)
section MIP
variable {p : Program} {l : Launch} {e : Env} {R : Room} {s : State} {m : MethodId} {args : Array Value} {below : List Frame} {meth : Method} {c : Code} {H : Heap} {locs : List Loc} {cells slots : Nat} {Q : State → Prop}
set_option maxHeartbeats 4000000 in
theorem mi_p_W {ad : Nat → Nat} {cc : ByteArray} {nL : Nat} {i : Instr} {pc : Nat} {lv : mi_L} {st : List Value} {z : Nat × mi_L × List Value} {ls : Array Slot} (hx : p.tables.exec = Jvm.exec) (hb : c.code = cc) (hdg : decode cc pc = .ok (i, mi_len i)) (hp : mi_p nL i pc lv st = some z) (hl : lv_has ls nL (mi_lv ad lv))
    (kk : ∀ ls' : Array Slot, lv_has ls' nL (mi_lv ad z.2.1) → W p l e R s m args below meth c H locs cells slots Q (F0 m z.1 ls' (z.2.2.map (mi_V ad)))) : W p l e R s m args below meth c H locs cells slots Q (F0 m pc ls (st.map (mi_V ad))) := by
  unfold mi_p at hp
  split at hp
  next n => cases hp; exact lv_iconst hx hb hdg rfl (kk ls hl)
  next n => cases hp; exact lv_bipush hx hb hdg rfl (kk ls hl)
  next n => cases hp; exact lv_sipush hx hb hdg rfl (kk ls hl)
  next n => cases hp; exact lv_lconst hx hb hdg rfl (kk ls hl)
  next => cases hp; exact lv_null hx hb hdg (kk ls hl)
  next i => obtain ⟨x, e, rfl⟩ := mi_ld_i_eq hp; exact lv_iload hx hb hdg (mi_at_l hl e) (kk ls hl)
  next i => obtain ⟨x, e, rfl⟩ := mi_ld_i_eq hp; exact lv_iload_n hx hb hdg rfl (mi_at_l hl e) (kk ls hl)
  next i => obtain ⟨x, e, rfl⟩ := mi_ld_l_eq hp; exact lv_lload hx hb hdg (mi_at_l hl e) (kk ls hl)
  next i => obtain ⟨x, e, rfl⟩ := mi_ld_l_eq hp; exact lv_lload_n hx hb hdg rfl (mi_at_l hl e) (kk ls hl)
  next i => obtain ⟨x, e, rfl⟩ := mi_ld_f_eq hp; exact lv_fload hx hb hdg (mi_at_l hl e) (kk ls hl)
  next i => obtain ⟨x, e, rfl⟩ := mi_ld_f_eq hp; exact lv_fload_n hx hb hdg rfl (mi_at_l hl e) (kk ls hl)
  next i => obtain ⟨x, e, rfl⟩ := mi_ld_d_eq hp; exact lv_dload hx hb hdg (mi_at_l hl e) (kk ls hl)
  next i => obtain ⟨x, e, rfl⟩ := mi_ld_d_eq hp; exact lv_dload_n hx hb hdg rfl (mi_at_l hl e) (kk ls hl)
  next i => 
    rcases mi_ld_a_eq hp with ⟨x, e, rfl⟩ | ⟨e, rfl⟩
    · exact lv_aload hx hb hdg (mi_at_l hl e) (kk ls hl)
    · exact lv_aloadN hx hb hdg (mi_at_l hl e) (kk ls hl)
  next i => 
    rcases mi_ld_a_eq hp with ⟨x, e, rfl⟩ | ⟨e, rfl⟩
    · exact lv_aload_n hx hb hdg rfl (mi_at_l hl e) (kk ls hl)
    · exact lv_aload_nN hx hb hdg rfl (mi_at_l hl e) (kk ls hl)
  next i => obtain ⟨e, x, r, rfl, rfl⟩ := mi_st_i_eq hp; exact lv_istore hx hb hdg hl e (mi_s1_lv ad lv i (.int x)) kk
  next i => obtain ⟨e, x, r, rfl, rfl⟩ := mi_st_i_eq hp; exact lv_istore_n hx hb hdg rfl hl e (mi_s1_lv ad lv i (.int x)) kk
  next i => obtain ⟨e, x, r, rfl, rfl⟩ := mi_st_l_eq hp; exact lv_lstore hx hb hdg hl e (mi_s2_lv ad lv i (.long x)) kk
  next i => obtain ⟨e, x, r, rfl, rfl⟩ := mi_st_l_eq hp; exact lv_lstore_n hx hb hdg rfl hl e (mi_s2_lv ad lv i (.long x)) kk
  next i => obtain ⟨e, x, r, rfl, rfl⟩ := mi_st_f_eq hp; exact lv_fstore hx hb hdg hl e (mi_s1_lv ad lv i (.float x)) kk
  next i => obtain ⟨e, x, r, rfl, rfl⟩ := mi_st_f_eq hp; exact lv_fstore_n hx hb hdg rfl hl e (mi_s1_lv ad lv i (.float x)) kk
  next i => obtain ⟨e, x, r, rfl, rfl⟩ := mi_st_d_eq hp; exact lv_dstore hx hb hdg hl e (mi_s2_lv ad lv i (.double x)) kk
  next i => obtain ⟨e, x, r, rfl, rfl⟩ := mi_st_d_eq hp; exact lv_dstore_n hx hb hdg rfl hl e (mi_s2_lv ad lv i (.double x)) kk
  next i => 
    obtain ⟨e, ⟨x, r, rfl, rfl⟩ | ⟨r, rfl, rfl⟩⟩ := mi_st_a_eq hp
    · exact lv_astore hx hb hdg hl e (mi_s1_lv ad lv i (.ref x)) kk
    · exact lv_astoreN hx hb hdg hl e (mi_s1_lv ad lv i .null) kk
  next i => 
    obtain ⟨e, ⟨x, r, rfl, rfl⟩ | ⟨r, rfl, rfl⟩⟩ := mi_st_a_eq hp
    · exact lv_astore_n hx hb hdg rfl hl e (mi_s1_lv ad lv i (.ref x)) kk
    · exact lv_astore_nN hx hb hdg rfl hl e (mi_s1_lv ad lv i .null) kk
  next i n => obtain ⟨e, x, e2, rfl⟩ := mi_inc_eq hp; obtain ⟨j, hj⟩ := List.getElem?_of_mem (mi_mem_l (ad := ad) e2); exact lv_iinc hx hb hdg hl hj rfl e (mi_s1_lv ad lv i (.int (x + Int32.ofInt n))) kk
  next => obtain ⟨x, y, r, rfl, rfl⟩ := mi_fii_eq hp; exact lv_iadd hx hb hdg (kk ls hl)
  next => obtain ⟨x, y, r, rfl, rfl⟩ := mi_fii_eq hp; exact lv_isub hx hb hdg (kk ls hl)
  next => obtain ⟨x, y, r, rfl, rfl⟩ := mi_fii_eq hp; exact lv_imul hx hb hdg (kk ls hl)
  next => obtain ⟨x, y, r, rfl, rfl⟩ := mi_fii_eq hp; exact lv_iand hx hb hdg (kk ls hl)
  next => obtain ⟨x, y, r, rfl, rfl⟩ := mi_fii_eq hp; exact lv_ior hx hb hdg (kk ls hl)
  next => obtain ⟨x, y, r, rfl, rfl⟩ := mi_fii_eq hp; exact lv_ixor hx hb hdg (kk ls hl)
  next => obtain ⟨x, y, r, rfl, rfl⟩ := mi_fll_eq hp; exact lv_ladd hx hb hdg (kk ls hl)
  next => obtain ⟨x, y, r, rfl, rfl⟩ := mi_fll_eq hp; exact lv_lsub hx hb hdg (kk ls hl)
  next => obtain ⟨x, y, r, rfl, rfl⟩ := mi_fll_eq hp; exact lv_lmul hx hb hdg (kk ls hl)
  next => obtain ⟨x, y, r, rfl, rfl⟩ := mi_fll_eq hp; exact lv_land hx hb hdg (kk ls hl)
  next => obtain ⟨x, y, r, rfl, rfl⟩ := mi_fll_eq hp; exact lv_lor hx hb hdg (kk ls hl)
  next => obtain ⟨x, y, r, rfl, rfl⟩ := mi_fll_eq hp; exact lv_lxor hx hb hdg (kk ls hl)
  next => obtain ⟨x, y, r, rfl, rfl⟩ := mi_fii_eq hp; exact lv_ishl hx hb hdg (kk ls hl)
  next => obtain ⟨x, y, r, rfl, rfl⟩ := mi_fii_eq hp; exact lv_ishr hx hb hdg (kk ls hl)
  next => obtain ⟨x, y, r, rfl, rfl⟩ := mi_fii_eq hp; exact lv_iushr hx hb hdg rfl (kk ls hl)
  next => obtain ⟨x, y, r, rfl, rfl⟩ := mi_fli_eq hp; exact lv_lshl hx hb hdg rfl (kk ls hl)
  next => obtain ⟨x, y, r, rfl, rfl⟩ := mi_fli_eq hp; exact lv_lshr hx hb hdg rfl (kk ls hl)
  next => obtain ⟨x, y, r, rfl, rfl⟩ := mi_fli_eq hp; exact lv_lushr hx hb hdg rfl (kk ls hl)
  next => obtain ⟨x, r, rfl, rfl⟩ := mi_fi_eq hp; exact lv_ineg hx hb hdg (kk ls hl)
  next => obtain ⟨x, r, rfl, rfl⟩ := mi_fl_eq hp; exact lv_lneg hx hb hdg (kk ls hl)
  next => obtain ⟨x, r, rfl, rfl⟩ := mi_fil_eq hp; exact lv_i2l hx hb hdg rfl (kk ls hl)
  next => obtain ⟨x, r, rfl, rfl⟩ := mi_fl_i_eq hp; exact lv_l2i hx hb hdg rfl (kk ls hl)
  next => obtain ⟨x, y, r, rfl, rfl⟩ := mi_fll_i_eq hp; exact W.lcmp hx hb hdg (kk ls hl)
  next => obtain ⟨x, r, rfl, rfl⟩ := mi_fid_eq hp; exact lv_i2d hx hb hdg (kk ls hl)
  next => obtain ⟨x, r, rfl, rfl⟩ := mi_fd_i_eq hp; exact lv_d2i hx hb hdg (kk ls hl)
  next => obtain ⟨x, r, rfl, rfl⟩ := mi_fd_l_eq hp; exact lv_d2l hx hb hdg (kk ls hl)
  next => obtain ⟨x, r, rfl, rfl⟩ := mi_fif_eq hp; exact lv_i2f hx hb hdg (kk ls hl)
  next => obtain ⟨x, r, rfl, rfl⟩ := mi_fld_eq hp; exact lv_l2d hx hb hdg (kk ls hl)
  next o => obtain ⟨x, y, r, rfl, rfl⟩ := mi_fdd_i_eq hp; exact lv_dcmp hx hb hdg (kk ls hl)
  next o => obtain ⟨x, y, r, rfl, rfl⟩ := mi_fff_i_eq hp; exact lv_fcmp hx hb hdg (kk ls hl)
  next => obtain ⟨v, r, e, rfl, rfl⟩ := mi_pop_eq hp; exact lv_pop hx hb hdg ((mi_V_cat ad v).trans e) (kk ls hl)
  next => obtain ⟨v, r, e, rfl, rfl⟩ := mi_dup_eq hp; exact lv_dup hx hb hdg ((mi_V_cat ad v).trans e) (kk ls hl)
  next => obtain ⟨v, u, r, e, rfl, rfl⟩ := mi_dup_x1_eq hp; exact lv_dup_x1 hx hb hdg ((mi_V_cat ad v).trans e.1) ((mi_V_cat ad u).trans e.2) (kk ls hl)
  next => obtain ⟨v, u, r, e, rfl, rfl⟩ := mi_dup2_eq hp; exact lv_dup2_11 hx hb hdg ((mi_V_cat ad v).trans e.1) ((mi_V_cat ad u).trans e.2) (kk ls hl)
  next => obtain ⟨v, r, e, rfl, rfl⟩ := mi_pop2_eq hp; exact lv_pop2_2 hx hb hdg ((mi_V_cat ad v).trans e) (kk ls hl)
  next o => obtain ⟨t, e, h2⟩ := Option.map_eq_some_iff.mp hp; cases h2; exact lv_goto hx hb hdg (mi_jump_eq e) (kk ls hl)
  next n => cases hp; match n, hdg with | 0, hdg => exact lv_fconst0 hx hb hdg (kk ls hl) | 1, hdg => exact lv_fconst1 hx hb hdg (kk ls hl) | 2, hdg => exact lv_fconst2 hx hb hdg (kk ls hl)
  next n => cases hp; match n, hdg with | 0, hdg => exact lv_dconst0 hx hb hdg (kk ls hl) | 1, hdg => exact lv_dconst1 hx hb hdg (kk ls hl)
  next => cases hp
end MIP