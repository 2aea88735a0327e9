-- arrays over arrays: the word lasts
theorem mi_AOA {ty : FieldType} {u U : State} (hvm : u.vm.Alike U.vm) (h : (Cond.arrayOver (.array ty)).before #[] u = true) : (Cond.arrayOver (.array ty)).before #[] U = true := by
  have e := Cond.arrayOver_setVmC (args := #[]) (s := u) hvm (.array ty)
  rw [h] at e
  exact e
