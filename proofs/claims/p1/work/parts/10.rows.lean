section MIR
variable {QX : Nat → Nat → mi_H → Prop} {P : mi_P} {X : mi_X} {k d mc ms pc : Nat} {lv : mi_L} {st : List Value} {h : mi_H} {Q : Option Value → mi_H → Prop} {tb : List (Nat × Instr)}
theorem mi_if_eq (ht : mi_tb (P.2.2.2.1 k).2.1 tb) {x : Int32} {off : Int} {tgt : Nat} (hi : mi_at tb pc = some (.ifCond .eq off)) (hj : mi_jump pc off = some tgt) (kt : x = 0 → mi_WX QX P X k d mc ms tgt lv st h Q) (kf : ¬ x = 0 → mi_WX QX P X k d mc ms (pc + 3) lv st h Q) : mi_WX QX P X k d mc ms pc lv (.int x :: st) h Q := by
  intro p l e R s m args below meth c H locs cells slots Z D dA b0 xa ls F hS hmc hms hR hl hZ
  exact lv_if_eq F.1 F.2.1 (ht pc _ (mi_at_mem hi)) (mi_jump_eq hj) (fun q => kt q p l e R s m args below meth c H locs cells slots Z D dA b0 xa ls F hS hmc hms hR hl hZ) (fun q => kf q p l e R s m args below meth c H locs cells slots Z D dA b0 xa ls F hS hmc hms hR hl hZ)
theorem mi_ic_eq (ht : mi_tb (P.2.2.2.1 k).2.1 tb) {x y : Int32} {off : Int} {tgt : Nat} (hi : mi_at tb pc = some (.if_icmp .eq off)) (hj : mi_jump pc off = some tgt) (kt : x = y → mi_WX QX P X k d mc ms tgt lv st h Q) (kf : ¬ x = y → mi_WX QX P X k d mc ms (pc + 3) lv st h Q) : mi_WX QX P X k d mc ms pc lv (.int y :: .int x :: st) h Q := by
  intro p l e R s m args below meth c H locs cells slots Z D dA b0 xa ls F hS hmc hms hR hl hZ
  exact lv_icmp_eq F.1 F.2.1 (ht pc _ (mi_at_mem hi)) (mi_jump_eq hj) (fun q => kt q p l e R s m args below meth c H locs cells slots Z D dA b0 xa ls F hS hmc hms hR hl hZ) (fun q => kf q p l e R s m args below meth c H locs cells slots Z D dA b0 xa ls F hS hmc hms hR hl hZ)
theorem mi_if_ne (ht : mi_tb (P.2.2.2.1 k).2.1 tb) {x : Int32} {off : Int} {tgt : Nat} (hi : mi_at tb pc = some (.ifCond .ne off)) (hj : mi_jump pc off = some tgt) (kt : ¬ x = 0 → mi_WX QX P X k d mc ms tgt lv st h Q) (kf : x = 0 → mi_WX QX P X k d mc ms (pc + 3) lv st h Q) : mi_WX QX P X k d mc ms pc lv (.int x :: st) h Q := by
  intro p l e R s m args below meth c H locs cells slots Z D dA b0 xa ls F hS hmc hms hR hl hZ
  exact lv_if_ne F.1 F.2.1 (ht pc _ (mi_at_mem hi)) (mi_jump_eq hj) (fun q => kt q p l e R s m args below meth c H locs cells slots Z D dA b0 xa ls F hS hmc hms hR hl hZ) (fun q => kf q p l e R s m args below meth c H locs cells slots Z D dA b0 xa ls F hS hmc hms hR hl hZ)
theorem mi_ic_ne (ht : mi_tb (P.2.2.2.1 k).2.1 tb) {x y : Int32} {off : Int} {tgt : Nat} (hi : mi_at tb pc = some (.if_icmp .ne off)) (hj : mi_jump pc off = some tgt) (kt : ¬ x = y → mi_WX QX P X k d mc ms tgt lv st h Q) (kf : x = y → mi_WX QX P X k d mc ms (pc + 3) lv st h Q) : mi_WX QX P X k d mc ms pc lv (.int y :: .int x :: st) h Q := by
  intro p l e R s m args below meth c H locs cells slots Z D dA b0 xa ls F hS hmc hms hR hl hZ
  exact lv_icmp_ne F.1 F.2.1 (ht pc _ (mi_at_mem hi)) (mi_jump_eq hj) (fun q => kt q p l e R s m args below meth c H locs cells slots Z D dA b0 xa ls F hS hmc hms hR hl hZ) (fun q => kf q p l e R s m args below meth c H locs cells slots Z D dA b0 xa ls F hS hmc hms hR hl hZ)
theorem mi_if_lt (ht : mi_tb (P.2.2.2.1 k).2.1 tb) {x : Int32} {off : Int} {tgt : Nat} (hi : mi_at tb pc = some (.ifCond .lt off)) (hj : mi_jump pc off = some tgt) (kt : x < 0 → mi_WX QX P X k d mc ms tgt lv st h Q) (kf : ¬ x < 0 → mi_WX QX P X k d mc ms (pc + 3) lv st h Q) : mi_WX QX P X k d mc ms pc lv (.int x :: st) h Q := by
  intro p l e R s m args below meth c H locs cells slots Z D dA b0 xa ls F hS hmc hms hR hl hZ
  exact lv_if_lt F.1 F.2.1 (ht pc _ (mi_at_mem hi)) (mi_jump_eq hj) (fun q => kt q p l e R s m args below meth c H locs cells slots Z D dA b0 xa ls F hS hmc hms hR hl hZ) (fun q => kf q p l e R s m args below meth c H locs cells slots Z D dA b0 xa ls F hS hmc hms hR hl hZ)
theorem mi_ic_lt (ht : mi_tb (P.2.2.2.1 k).2.1 tb) {x y : Int32} {off : Int} {tgt : Nat} (hi : mi_at tb pc = some (.if_icmp .lt off)) (hj : mi_jump pc off = some tgt) (kt : x < y → mi_WX QX P X k d mc ms tgt lv st h Q) (kf : ¬ x < y → mi_WX QX P X k d mc ms (pc + 3) lv st h Q) : mi_WX QX P X k d mc ms pc lv (.int y :: .int x :: st) h Q := by
  intro p l e R s m args below meth c H locs cells slots Z D dA b0 xa ls F hS hmc hms hR hl hZ
  exact lv_icmp_lt F.1 F.2.1 (ht pc _ (mi_at_mem hi)) (mi_jump_eq hj) (fun q => kt q p l e R s m args below meth c H locs cells slots Z D dA b0 xa ls F hS hmc hms hR hl hZ) (fun q => kf q p l e R s m args below meth c H locs cells slots Z D dA b0 xa ls F hS hmc hms hR hl hZ)
theorem mi_if_ge (ht : mi_tb (P.2.2.2.1 k).2.1 tb) {x : Int32} {off : Int} {tgt : Nat} (hi : mi_at tb pc = some (.ifCond .ge off)) (hj : mi_jump pc off = some tgt) (kt : 0 ≤ x → mi_WX QX P X k d mc ms tgt lv st h Q) (kf : ¬ 0 ≤ x → mi_WX QX P X k d mc ms (pc + 3) lv st h Q) : mi_WX QX P X k d mc ms pc lv (.int x :: st) h Q := by
  intro p l e R s m args below meth c H locs cells slots Z D dA b0 xa ls F hS hmc hms hR hl hZ
  exact lv_if_ge F.1 F.2.1 (ht pc _ (mi_at_mem hi)) (mi_jump_eq hj) (fun q => kt q p l e R s m args below meth c H locs cells slots Z D dA b0 xa ls F hS hmc hms hR hl hZ) (fun q => kf q p l e R s m args below meth c H locs cells slots Z D dA b0 xa ls F hS hmc hms hR hl hZ)
theorem mi_ic_ge (ht : mi_tb (P.2.2.2.1 k).2.1 tb) {x y : Int32} {off : Int} {tgt : Nat} (hi : mi_at tb pc = some (.if_icmp .ge off)) (hj : mi_jump pc off = some tgt) (kt : y ≤ x → mi_WX QX P X k d mc ms tgt lv st h Q) (kf : ¬ y ≤ x → mi_WX QX P X k d mc ms (pc + 3) lv st h Q) : mi_WX QX P X k d mc ms pc lv (.int y :: .int x :: st) h Q := by
  intro p l e R s m args below meth c H locs cells slots Z D dA b0 xa ls F hS hmc hms hR hl hZ
  exact lv_icmp_ge F.1 F.2.1 (ht pc _ (mi_at_mem hi)) (mi_jump_eq hj) (fun q => kt q p l e R s m args below meth c H locs cells slots Z D dA b0 xa ls F hS hmc hms hR hl hZ) (fun q => kf q p l e R s m args below meth c H locs cells slots Z D dA b0 xa ls F hS hmc hms hR hl hZ)
theorem mi_if_gt (ht : mi_tb (P.2.2.2.1 k).2.1 tb) {x : Int32} {off : Int} {tgt : Nat} (hi : mi_at tb pc = some (.ifCond .gt off)) (hj : mi_jump pc off = some tgt) (kt : 0 < x → mi_WX QX P X k d mc ms tgt lv st h Q) (kf : ¬ 0 < x → mi_WX QX P X k d mc ms (pc + 3) lv st h Q) : mi_WX QX P X k d mc ms pc lv (.int x :: st) h Q := by
  intro p l e R s m args below meth c H locs cells slots Z D dA b0 xa ls F hS hmc hms hR hl hZ
  exact lv_if_gt F.1 F.2.1 (ht pc _ (mi_at_mem hi)) (mi_jump_eq hj) (fun q => kt q p l e R s m args below meth c H locs cells slots Z D dA b0 xa ls F hS hmc hms hR hl hZ) (fun q => kf q p l e R s m args below meth c H locs cells slots Z D dA b0 xa ls F hS hmc hms hR hl hZ)
theorem mi_ic_gt (ht : mi_tb (P.2.2.2.1 k).2.1 tb) {x y : Int32} {off : Int} {tgt : Nat} (hi : mi_at tb pc = some (.if_icmp .gt off)) (hj : mi_jump pc off = some tgt) (kt : y < x → mi_WX QX P X k d mc ms tgt lv st h Q) (kf : ¬ y < x → mi_WX QX P X k d mc ms (pc + 3) lv st h Q) : mi_WX QX P X k d mc ms pc lv (.int y :: .int x :: st) h Q := by
  intro p l e R s m args below meth c H locs cells slots Z D dA b0 xa ls F hS hmc hms hR hl hZ
  exact lv_icmp_gt F.1 F.2.1 (ht pc _ (mi_at_mem hi)) (mi_jump_eq hj) (fun q => kt q p l e R s m args below meth c H locs cells slots Z D dA b0 xa ls F hS hmc hms hR hl hZ) (fun q => kf q p l e R s m args below meth c H locs cells slots Z D dA b0 xa ls F hS hmc hms hR hl hZ)
theorem mi_if_le (ht : mi_tb (P.2.2.2.1 k).2.1 tb) {x : Int32} {off : Int} {tgt : Nat} (hi : mi_at tb pc = some (.ifCond .le off)) (hj : mi_jump pc off = some tgt) (kt : x ≤ 0 → mi_WX QX P X k d mc ms tgt lv st h Q) (kf : ¬ x ≤ 0 → mi_WX QX P X k d mc ms (pc + 3) lv st h Q) : mi_WX QX P X k d mc ms pc lv (.int x :: st) h Q := by
  intro p l e R s m args below meth c H locs cells slots Z D dA b0 xa ls F hS hmc hms hR hl hZ
  exact lv_if_le F.1 F.2.1 (ht pc _ (mi_at_mem hi)) (mi_jump_eq hj) (fun q => kt q p l e R s m args below meth c H locs cells slots Z D dA b0 xa ls F hS hmc hms hR hl hZ) (fun q => kf q p l e R s m args below meth c H locs cells slots Z D dA b0 xa ls F hS hmc hms hR hl hZ)
theorem mi_ic_le (ht : mi_tb (P.2.2.2.1 k).2.1 tb) {x y : Int32} {off : Int} {tgt : Nat} (hi : mi_at tb pc = some (.if_icmp .le off)) (hj : mi_jump pc off = some tgt) (kt : x ≤ y → mi_WX QX P X k d mc ms tgt lv st h Q) (kf : ¬ x ≤ y → mi_WX QX P X k d mc ms (pc + 3) lv st h Q) : mi_WX QX P X k d mc ms pc lv (.int y :: .int x :: st) h Q := by
  intro p l e R s m args below meth c H locs cells slots Z D dA b0 xa ls F hS hmc hms hR hl hZ
  exact lv_icmp_le F.1 F.2.1 (ht pc _ (mi_at_mem hi)) (mi_jump_eq hj) (fun q => kt q p l e R s m args below meth c H locs cells slots Z D dA b0 xa ls F hS hmc hms hR hl hZ) (fun q => kf q p l e R s m args below meth c H locs cells slots Z D dA b0 xa ls F hS hmc hms hR hl hZ)
theorem mi_ifnull_r (ht : mi_tb (P.2.2.2.1 k).2.1 tb) {a : Nat} {off : Int} (hi : mi_at tb pc = some (.ifnull off)) (kk : mi_WX QX P X k d mc ms (pc + 3) lv st h Q) : mi_WX QX P X k d mc ms pc lv (.ref a :: st) h Q := by
  intro p l e R s m args below meth c H locs cells slots Z D dA b0 xa ls F hS hmc hms hR hl hZ
  exact lv_ifnull F.1 F.2.1 (ht pc _ (mi_at_mem hi)) (kk p l e R s m args below meth c H locs cells slots Z D dA b0 xa ls F hS hmc hms hR hl hZ)
theorem mi_ifnull_n (ht : mi_tb (P.2.2.2.1 k).2.1 tb) {off : Int} {tgt : Nat} (hi : mi_at tb pc = some (.ifnull off)) (hj : mi_jump pc off = some tgt) (kk : mi_WX QX P X k d mc ms tgt lv st h Q) : mi_WX QX P X k d mc ms pc lv (.null :: st) h Q := by
  intro p l e R s m args below meth c H locs cells slots Z D dA b0 xa ls F hS hmc hms hR hl hZ
  exact lv_ifnullN F.1 F.2.1 (ht pc _ (mi_at_mem hi)) (mi_jump_eq hj) (kk p l e R s m args below meth c H locs cells slots Z D dA b0 xa ls F hS hmc hms hR hl hZ)
theorem mi_ifnonnull_r (ht : mi_tb (P.2.2.2.1 k).2.1 tb) {a : Nat} {off : Int} {tgt : Nat} (hi : mi_at tb pc = some (.ifnonnull off)) (hj : mi_jump pc off = some tgt) (kk : mi_WX QX P X k d mc ms tgt lv st h Q) : mi_WX QX P X k d mc ms pc lv (.ref a :: st) h Q := by
  intro p l e R s m args below meth c H locs cells slots Z D dA b0 xa ls F hS hmc hms hR hl hZ
  exact lv_ifnonnull F.1 F.2.1 (ht pc _ (mi_at_mem hi)) (mi_jump_eq hj) (kk p l e R s m args below meth c H locs cells slots Z D dA b0 xa ls F hS hmc hms hR hl hZ)
theorem mi_ifnonnull_n (ht : mi_tb (P.2.2.2.1 k).2.1 tb) {off : Int} (hi : mi_at tb pc = some (.ifnonnull off)) (kk : mi_WX QX P X k d mc ms (pc + 3) lv st h Q) : mi_WX QX P X k d mc ms pc lv (.null :: st) h Q := by
  intro p l e R s m args below meth c H locs cells slots Z D dA b0 xa ls F hS hmc hms hR hl hZ
  exact lv_ifnonnullN F.1 F.2.1 (ht pc _ (mi_at_mem hi)) (kk p l e R s m args below meth c H locs cells slots Z D dA b0 xa ls F hS hmc hms hR hl hZ)
theorem mi_swout {dflt lo hi : Int} {offs : Array Int} {len : Nat} {x : Int32} {tgt : Nat} (hdg : decode (P.2.2.2.1 k).2.1 pc = .ok (.tableswitch dflt lo hi offs, len)) (hx : x.toInt < lo ∨ hi < x.toInt) (hj : mi_jump pc dflt = some tgt) (kk : mi_WX QX P X k d mc ms tgt lv st h Q) : mi_WX QX P X k d mc ms pc lv (.int x :: st) h Q := by
  intro p l e R s m args below meth c H locs cells slots Z D dA b0 xa ls F hS hmc hms hR hl hZ
  exact lv_tableOut F.1 F.2.1 hdg hx (mi_jump_eq hj) (kk p l e R s m args below meth c H locs cells slots Z D dA b0 xa ls F hS hmc hms hR hl hZ)
theorem mi_swin {dflt lo hi : Int} {offs : Array Int} {len : Nat} {x : Int32} {off : Int} {tgt : Nat} (hdg : decode (P.2.2.2.1 k).2.1 pc = .ok (.tableswitch dflt lo hi offs, len)) (h1 : ¬ x.toInt < lo) (h2 : ¬ hi < x.toInt) (ho : offs[(x.toInt - lo).toNat]? = some off) (hj : mi_jump pc off = some tgt) (kk : mi_WX QX P X k d mc ms tgt lv st h Q) : mi_WX QX P X k d mc ms pc lv (.int x :: st) h Q := by
  intro p l e R s m args below meth c H locs cells slots Z D dA b0 xa ls F hS hmc hms hR hl hZ
  exact lv_tableIn F.1 F.2.1 hdg h1 h2 ho (mi_jump_eq hj) (kk p l e R s m args below meth c H locs cells slots Z D dA b0 xa ls F hS hmc hms hR hl hZ)
theorem mi_ldc (ht : mi_tb (P.2.2.2.1 k).2.1 tb) {index : Nat} {v : Int32} (hi : mi_at tb pc = some (.ldc index)) (hc : Jvm.Cond.constant (P.2.2.2.1 k).1.cls index v ∈ P.2.1) (kk : mi_WX QX P X k d mc ms (pc + 2) lv (.int v :: st) h Q) : mi_WX QX P X k d mc ms pc lv st h Q := by
  intro p l e R s m args below meth c H locs cells slots Z D dA b0 xa ls F hS hmc hms hR hl hZ
  exact lv_ldc F.1 F.2.1 F.2.2.2.1 (F.2.2.2.2.1 _ hc) (ht pc _ (mi_at_mem hi)) (kk p l e R s m args below meth c H locs cells slots Z D dA b0 xa ls F hS hmc hms hR hl hZ)
theorem mi_ldcw (ht : mi_tb (P.2.2.2.1 k).2.1 tb) {index : Nat} {v : Int32} (hi : mi_at tb pc = some (.ldc_w index)) (hc : Jvm.Cond.constant (P.2.2.2.1 k).1.cls index v ∈ P.2.1) (kk : mi_WX QX P X k d mc ms (pc + 3) lv (.int v :: st) h Q) : mi_WX QX P X k d mc ms pc lv st h Q := by
  intro p l e R s m args below meth c H locs cells slots Z D dA b0 xa ls F hS hmc hms hR hl hZ
  exact lv_ldcw F.1 F.2.1 F.2.2.2.1 (F.2.2.2.2.1 _ hc) (ht pc _ (mi_at_mem hi)) (kk p l e R s m args below meth c H locs cells slots Z D dA b0 xa ls F hS hmc hms hR hl hZ)
theorem mi_ldcf (ht : mi_tb (P.2.2.2.1 k).2.1 tb) {index : Nat} {v : UInt32} (hi : mi_at tb pc = some (.ldc index)) (hc : Jvm.Cond.constantFloat (P.2.2.2.1 k).1.cls index v ∈ P.2.1) (kk : mi_WX QX P X k d mc ms (pc + 2) lv (.float v :: st) h Q) : mi_WX QX P X k d mc ms pc lv st h Q := by
  intro p l e R s m args below meth c H locs cells slots Z D dA b0 xa ls F hS hmc hms hR hl hZ
  exact lv_ldcf F.1 F.2.1 F.2.2.2.1 (F.2.2.2.2.1 _ hc) (ht pc _ (mi_at_mem hi)) (kk p l e R s m args below meth c H locs cells slots Z D dA b0 xa ls F hS hmc hms hR hl hZ)
theorem mi_ldc2 (ht : mi_tb (P.2.2.2.1 k).2.1 tb) {index : Nat} {v : Int64} (hi : mi_at tb pc = some (.ldc2_w index)) (hc : Jvm.Cond.constantLong (P.2.2.2.1 k).1.cls index v ∈ P.2.1) (kk : mi_WX QX P X k d mc ms (pc + 3) lv (.long v :: st) h Q) : mi_WX QX P X k d mc ms pc lv st h Q := by
  intro p l e R s m args below meth c H locs cells slots Z D dA b0 xa ls F hS hmc hms hR hl hZ
  exact lv_ldc2 F.1 F.2.1 F.2.2.2.1 (F.2.2.2.2.1 _ hc) (ht pc _ (mi_at_mem hi)) (kk p l e R s m args below meth c H locs cells slots Z D dA b0 xa ls F hS hmc hms hR hl hZ)
theorem mi_ldc2d (ht : mi_tb (P.2.2.2.1 k).2.1 tb) {index : Nat} {v : UInt64} (hi : mi_at tb pc = some (.ldc2_w index)) (hc : Jvm.Cond.constantDouble (P.2.2.2.1 k).1.cls index v ∈ P.2.1) (kk : mi_WX QX P X k d mc ms (pc + 3) lv (.double v :: st) h Q) : mi_WX QX P X k d mc ms pc lv st h Q := by
  intro p l e R s m args below meth c H locs cells slots Z D dA b0 xa ls F hS hmc hms hR hl hZ
  exact lv_ldc2d F.1 F.2.1 F.2.2.2.1 (F.2.2.2.2.1 _ hc) (ht pc _ (mi_at_mem hi)) (kk p l e R s m args below meth c H locs cells slots Z D dA b0 xa ls F hS hmc hms hR hl hZ)
theorem mi_idiv (ht : mi_tb (P.2.2.2.1 k).2.1 tb) {x y : Int32} (hi : mi_at tb pc = some .idiv) (hne : ¬ y = 0) (kk : mi_WX QX P X k d mc ms (pc + 1) lv (.int (x / y) :: st) h Q) : mi_WX QX P X k d mc ms pc lv (.int y :: .int x :: st) h Q := by
  intro p l e R s m args below meth c H locs cells slots Z D dA b0 xa ls F hS hmc hms hR hl hZ
  exact lv_idiv F.1 F.2.1 (ht pc _ (mi_at_mem hi)) hne (kk p l e R s m args below meth c H locs cells slots Z D dA b0 xa ls F hS hmc hms hR hl hZ)
theorem mi_irem (ht : mi_tb (P.2.2.2.1 k).2.1 tb) {x y : Int32} (hi : mi_at tb pc = some .irem) (hne : ¬ y = 0) (kk : mi_WX QX P X k d mc ms (pc + 1) lv (.int (x - x / y * y) :: st) h Q) : mi_WX QX P X k d mc ms pc lv (.int y :: .int x :: st) h Q := by
  intro p l e R s m args below meth c H locs cells slots Z D dA b0 xa ls F hS hmc hms hR hl hZ
  exact lv_irem F.1 F.2.1 (ht pc _ (mi_at_mem hi)) hne (kk p l e R s m args below meth c H locs cells slots Z D dA b0 xa ls F hS hmc hms hR hl hZ)
theorem mi_ldiv (ht : mi_tb (P.2.2.2.1 k).2.1 tb) {x y : Int64} (hi : mi_at tb pc = some .ldiv) (hne : ¬ y = 0) (kk : mi_WX QX P X k d mc ms (pc + 1) lv (.long (x / y) :: st) h Q) : mi_WX QX P X k d mc ms pc lv (.long y :: .long x :: st) h Q := by
  intro p l e R s m args below meth c H locs cells slots Z D dA b0 xa ls F hS hmc hms hR hl hZ
  exact lv_ldiv F.1 F.2.1 (ht pc _ (mi_at_mem hi)) hne (kk p l e R s m args below meth c H locs cells slots Z D dA b0 xa ls F hS hmc hms hR hl hZ)
theorem mi_lrem (ht : mi_tb (P.2.2.2.1 k).2.1 tb) {x y : Int64} (hi : mi_at tb pc = some .lrem) (hne : ¬ y = 0) (kk : mi_WX QX P X k d mc ms (pc + 1) lv (.long (x - x / y * y) :: st) h Q) : mi_WX QX P X k d mc ms pc lv (.long y :: .long x :: st) h Q := by
  intro p l e R s m args below meth c H locs cells slots Z D dA b0 xa ls F hS hmc hms hR hl hZ
  exact lv_lrem F.1 F.2.1 (ht pc _ (mi_at_mem hi)) hne (kk p l e R s m args below meth c H locs cells slots Z D dA b0 xa ls F hS hmc hms hR hl hZ)
theorem mi_dadd (ht : mi_tb (P.2.2.2.1 k).2.1 tb) {x y : UInt64} (hi : mi_at tb pc = some .dadd) (hne : vf_n64 (FP.dadd x y)) (kk : mi_WX QX P X k d mc ms (pc + 1) lv (.double (FP.dadd x y) :: st) h Q) : mi_WX QX P X k d mc ms pc lv (.double y :: .double x :: st) h Q := by
  intro p l e R s m args below meth c H locs cells slots Z D dA b0 xa ls F hS hmc hms hR hl hZ
  exact lv_dadd F.1 F.2.1 (ht pc _ (mi_at_mem hi)) hne (kk p l e R s m args below meth c H locs cells slots Z D dA b0 xa ls F hS hmc hms hR hl hZ)
theorem mi_dsub (ht : mi_tb (P.2.2.2.1 k).2.1 tb) {x y : UInt64} (hi : mi_at tb pc = some .dsub) (hne : vf_n64 (FP.dsub x y)) (kk : mi_WX QX P X k d mc ms (pc + 1) lv (.double (FP.dsub x y) :: st) h Q) : mi_WX QX P X k d mc ms pc lv (.double y :: .double x :: st) h Q := by
  intro p l e R s m args below meth c H locs cells slots Z D dA b0 xa ls F hS hmc hms hR hl hZ
  exact lv_dsub F.1 F.2.1 (ht pc _ (mi_at_mem hi)) hne (kk p l e R s m args below meth c H locs cells slots Z D dA b0 xa ls F hS hmc hms hR hl hZ)
theorem mi_dmul (ht : mi_tb (P.2.2.2.1 k).2.1 tb) {x y : UInt64} (hi : mi_at tb pc = some .dmul) (hne : vf_n64 (FP.dmul x y)) (kk : mi_WX QX P X k d mc ms (pc + 1) lv (.double (FP.dmul x y) :: st) h Q) : mi_WX QX P X k d mc ms pc lv (.double y :: .double x :: st) h Q := by
  intro p l e R s m args below meth c H locs cells slots Z D dA b0 xa ls F hS hmc hms hR hl hZ
  exact lv_dmul F.1 F.2.1 (ht pc _ (mi_at_mem hi)) hne (kk p l e R s m args below meth c H locs cells slots Z D dA b0 xa ls F hS hmc hms hR hl hZ)
theorem mi_ddiv (ht : mi_tb (P.2.2.2.1 k).2.1 tb) {x y : UInt64} (hi : mi_at tb pc = some .ddiv) (hne : vf_n64 (FP.ddiv x y)) (kk : mi_WX QX P X k d mc ms (pc + 1) lv (.double (FP.ddiv x y) :: st) h Q) : mi_WX QX P X k d mc ms pc lv (.double y :: .double x :: st) h Q := by
  intro p l e R s m args below meth c H locs cells slots Z D dA b0 xa ls F hS hmc hms hR hl hZ
  exact lv_ddiv F.1 F.2.1 (ht pc _ (mi_at_mem hi)) hne (kk p l e R s m args below meth c H locs cells slots Z D dA b0 xa ls F hS hmc hms hR hl hZ)
theorem mi_drem (ht : mi_tb (P.2.2.2.1 k).2.1 tb) {x y : UInt64} (hi : mi_at tb pc = some .drem) (hne : vf_n64 (FP.drem x y)) (kk : mi_WX QX P X k d mc ms (pc + 1) lv (.double (FP.drem x y) :: st) h Q) : mi_WX QX P X k d mc ms pc lv (.double y :: .double x :: st) h Q := by
  intro p l e R s m args below meth c H locs cells slots Z D dA b0 xa ls F hS hmc hms hR hl hZ
  exact lv_drem F.1 F.2.1 (ht pc _ (mi_at_mem hi)) hne (kk p l e R s m args below meth c H locs cells slots Z D dA b0 xa ls F hS hmc hms hR hl hZ)
theorem mi_fadd (ht : mi_tb (P.2.2.2.1 k).2.1 tb) {x y : UInt32} (hi : mi_at tb pc = some .fadd) (hne : vf_n32 (FP.fadd x y)) (kk : mi_WX QX P X k d mc ms (pc + 1) lv (.float (FP.fadd x y) :: st) h Q) : mi_WX QX P X k d mc ms pc lv (.float y :: .float x :: st) h Q := by
  intro p l e R s m args below meth c H locs cells slots Z D dA b0 xa ls F hS hmc hms hR hl hZ
  exact lv_fadd F.1 F.2.1 (ht pc _ (mi_at_mem hi)) hne (kk p l e R s m args below meth c H locs cells slots Z D dA b0 xa ls F hS hmc hms hR hl hZ)
theorem mi_fsub (ht : mi_tb (P.2.2.2.1 k).2.1 tb) {x y : UInt32} (hi : mi_at tb pc = some .fsub) (hne : vf_n32 (FP.fsub x y)) (kk : mi_WX QX P X k d mc ms (pc + 1) lv (.float (FP.fsub x y) :: st) h Q) : mi_WX QX P X k d mc ms pc lv (.float y :: .float x :: st) h Q := by
  intro p l e R s m args below meth c H locs cells slots Z D dA b0 xa ls F hS hmc hms hR hl hZ
  exact lv_fsub F.1 F.2.1 (ht pc _ (mi_at_mem hi)) hne (kk p l e R s m args below meth c H locs cells slots Z D dA b0 xa ls F hS hmc hms hR hl hZ)
theorem mi_fmul (ht : mi_tb (P.2.2.2.1 k).2.1 tb) {x y : UInt32} (hi : mi_at tb pc = some .fmul) (hne : vf_n32 (FP.fmul x y)) (kk : mi_WX QX P X k d mc ms (pc + 1) lv (.float (FP.fmul x y) :: st) h Q) : mi_WX QX P X k d mc ms pc lv (.float y :: .float x :: st) h Q := by
  intro p l e R s m args below meth c H locs cells slots Z D dA b0 xa ls F hS hmc hms hR hl hZ
  exact lv_fmul F.1 F.2.1 (ht pc _ (mi_at_mem hi)) hne (kk p l e R s m args below meth c H locs cells slots Z D dA b0 xa ls F hS hmc hms hR hl hZ)
theorem mi_fdiv (ht : mi_tb (P.2.2.2.1 k).2.1 tb) {x y : UInt32} (hi : mi_at tb pc = some .fdiv) (hne : vf_n32 (FP.fdiv x y)) (kk : mi_WX QX P X k d mc ms (pc + 1) lv (.float (FP.fdiv x y) :: st) h Q) : mi_WX QX P X k d mc ms pc lv (.float y :: .float x :: st) h Q := by
  intro p l e R s m args below meth c H locs cells slots Z D dA b0 xa ls F hS hmc hms hR hl hZ
  exact lv_fdiv F.1 F.2.1 (ht pc _ (mi_at_mem hi)) hne (kk p l e R s m args below meth c H locs cells slots Z D dA b0 xa ls F hS hmc hms hR hl hZ)
theorem mi_frem (ht : mi_tb (P.2.2.2.1 k).2.1 tb) {x y : UInt32} (hi : mi_at tb pc = some .frem) (hne : vf_n32 (FP.frem x y)) (kk : mi_WX QX P X k d mc ms (pc + 1) lv (.float (FP.frem x y) :: st) h Q) : mi_WX QX P X k d mc ms pc lv (.float y :: .float x :: st) h Q := by
  intro p l e R s m args below meth c H locs cells slots Z D dA b0 xa ls F hS hmc hms hR hl hZ
  exact lv_frem F.1 F.2.1 (ht pc _ (mi_at_mem hi)) hne (kk p l e R s m args below meth c H locs cells slots Z D dA b0 xa ls F hS hmc hms hR hl hZ)
theorem mi_f2d (ht : mi_tb (P.2.2.2.1 k).2.1 tb) {x : UInt32} (hi : mi_at tb pc = some .f2d) (hne : vf_n64 (FP.f2d x)) (kk : mi_WX QX P X k d mc ms (pc + 1) lv (.double (FP.f2d x) :: st) h Q) : mi_WX QX P X k d mc ms pc lv (.float x :: st) h Q := by
  intro p l e R s m args below meth c H locs cells slots Z D dA b0 xa ls F hS hmc hms hR hl hZ
  exact lv_f2d F.1 F.2.1 (ht pc _ (mi_at_mem hi)) hne (kk p l e R s m args below meth c H locs cells slots Z D dA b0 xa ls F hS hmc hms hR hl hZ)
theorem mi_rf (ad : Nat → Nat) (r : Option Nat) : va_rf (r.map ad) = mi_V ad (va_rf r) := by cases r <;> rfl
theorem mi_iald (ht : mi_tb (P.2.2.2.1 k).2.1 tb) {a t n : Nat} {f : Nat → Int32} {i : Int32} (hi : mi_at tb pc = some .iaload) (htt : P.2.2.2.2.1[t]? = some .int) (hE : P.2.2.2.2.2.1 ≤ a) (ha : a < h.1) (hc : h.2 a = .inl (t, n, .inl f)) (hin : vp_in i n) (kk : mi_WX QX P X k d mc ms (pc + 1) lv (.int (f i.toNatClampNeg) :: st) h Q) : mi_WX QX P X k d mc ms pc lv (.int i :: .ref a :: st) h Q := by
  intro p l e R s m args below meth c H locs cells slots Z D dA b0 xa ls F hS hmc hms hR hl hZ
  have he := mi_w_at (dA := dA) (E := P.2.2.2.2.2.1) (b0 := b0) (xa := xa) (h := h) hE ha
  rw [hc] at he
  exact va_iald F.1 F.2.1 F.2.2.2.2.2.2.2.2.2.2.2.1 hR.2.2 _ t he (mi_tys_at htt) hin (ht pc _ (mi_at_mem hi)) (kk p l e R s m args below meth c H locs cells slots Z D dA b0 xa ls F hS hmc hms hR hl hZ)
set_option maxHeartbeats 4000000 in
theorem mi_iast (ht : mi_tb (P.2.2.2.1 k).2.1 tb) {a t n : Nat} {f : Nat → Int32} {i : Int32} {x : Int32} (hi : mi_at tb pc = some .iastore) (htt : P.2.2.2.2.1[t]? = some .int) (hE : P.2.2.2.2.2.1 ≤ a) (ha : a < h.1) (hc : h.2 a = .inl (t, n, .inl f)) (hin : vp_in i n) (kk : mi_WX QX P X k d mc ms (pc + 1) lv st (h.1, va_up h.2 a (.inl (t, n, .inl (va_up f i.toNatClampNeg x)))) Q) : mi_WX QX P X k d mc ms pc lv (.int x :: .int i :: .ref a :: st) h Q := by
  intro p l e R s m args below meth c H locs cells slots Z D dA b0 xa ls F hS hmc hms hR hl hZ
  have he := mi_w_at (dA := dA) (E := P.2.2.2.2.2.1) (b0 := b0) (xa := xa) (h := h) hE ha
  rw [hc] at he
  refine W.iast F.1 F.2.1 (hR.2.2 _ _ he) ((F.2.2.2.2.2.2.2.2.2.2.2.1.2 t _ (mi_tys_at htt)).1 n (fun j => .int (f j))) (fun q => by cases q) (by show ¬ (i < 0 ∨ (arrV _ _ _).slots.size ≤ _); rw [arrV_size]; exact hin) rfl rfl (ht pc _ (mi_at_mem hi)) fun H1 e1 z oq => ?_
  refine kk p l e R s m args below meth c H1 _ cells slots Z D dA b0 xa ls F (hS.put z oq (mi_ad_in hE)) hmc hms (hR.put hE ha _ ?_ z oq) hl hZ
  show H1[_]? = some (vp_cell (dA t) (n, _))
  rw [e1]
  show some ((arrV (dA t) n (fun j => .int (f j))).setSlot _ _) = some (arrV (dA t) n (fun j => .int (va_up f i.toNatClampNeg x j)))
  rw [arrV_store]
  congr 2
  funext q
  by_cases hq : q = i.toNatClampNeg
  · subst hq
    simp [updV, va_up]
  · simp [updV, va_up, hq]
theorem mi_lald (ht : mi_tb (P.2.2.2.1 k).2.1 tb) {a t n : Nat} {f : Nat → Int64} {i : Int32} (hi : mi_at tb pc = some .laload) (htt : P.2.2.2.2.1[t]? = some .long) (hE : P.2.2.2.2.2.1 ≤ a) (ha : a < h.1) (hc : h.2 a = .inl (t, n, .inr (.inl f))) (hin : vp_in i n) (kk : mi_WX QX P X k d mc ms (pc + 1) lv (.long (f i.toNatClampNeg) :: st) h Q) : mi_WX QX P X k d mc ms pc lv (.int i :: .ref a :: st) h Q := by
  intro p l e R s m args below meth c H locs cells slots Z D dA b0 xa ls F hS hmc hms hR hl hZ
  have he := mi_w_at (dA := dA) (E := P.2.2.2.2.2.1) (b0 := b0) (xa := xa) (h := h) hE ha
  rw [hc] at he
  exact va_lald F.1 F.2.1 F.2.2.2.2.2.2.2.2.2.2.2.1 hR.2.2 _ t he (mi_tys_at htt) hin (ht pc _ (mi_at_mem hi)) (kk p l e R s m args below meth c H locs cells slots Z D dA b0 xa ls F hS hmc hms hR hl hZ)
set_option maxHeartbeats 4000000 in
theorem mi_last (ht : mi_tb (P.2.2.2.1 k).2.1 tb) {a t n : Nat} {f : Nat → Int64} {i : Int32} {x : Int64} (hi : mi_at tb pc = some .lastore) (htt : P.2.2.2.2.1[t]? = some .long) (hE : P.2.2.2.2.2.1 ≤ a) (ha : a < h.1) (hc : h.2 a = .inl (t, n, .inr (.inl f))) (hin : vp_in i n) (kk : mi_WX QX P X k d mc ms (pc + 1) lv st (h.1, va_up h.2 a (.inl (t, n, .inr (.inl (va_up f i.toNatClampNeg x))))) Q) : mi_WX QX P X k d mc ms pc lv (.long x :: .int i :: .ref a :: st) h Q := by
  intro p l e R s m args below meth c H locs cells slots Z D dA b0 xa ls F hS hmc hms hR hl hZ
  have he := mi_w_at (dA := dA) (E := P.2.2.2.2.2.1) (b0 := b0) (xa := xa) (h := h) hE ha
  rw [hc] at he
  refine W.last F.1 F.2.1 (hR.2.2 _ _ he) ((F.2.2.2.2.2.2.2.2.2.2.2.1.2 t _ (mi_tys_at htt)).1 n (fun j => .long (f j))) (fun q => by cases q) (by show ¬ (i < 0 ∨ (arrV _ _ _).slots.size ≤ _); rw [arrV_size]; exact hin) rfl rfl (ht pc _ (mi_at_mem hi)) fun H1 e1 z oq => ?_
  refine kk p l e R s m args below meth c H1 _ cells slots Z D dA b0 xa ls F (hS.put z oq (mi_ad_in hE)) hmc hms (hR.put hE ha _ ?_ z oq) hl hZ
  show H1[_]? = some (vp_cell (dA t) (n, _))
  rw [e1]
  show some ((arrV (dA t) n (fun j => .long (f j))).setSlot _ _) = some (arrV (dA t) n (fun j => .long (va_up f i.toNatClampNeg x j)))
  rw [arrV_store]
  congr 2
  funext q
  by_cases hq : q = i.toNatClampNeg
  · subst hq
    simp [updV, va_up]
  · simp [updV, va_up, hq]
theorem mi_dald (ht : mi_tb (P.2.2.2.1 k).2.1 tb) {a t n : Nat} {f : Nat → UInt64} {i : Int32} (hi : mi_at tb pc = some .daload) (htt : P.2.2.2.2.1[t]? = some .double) (hE : P.2.2.2.2.2.1 ≤ a) (ha : a < h.1) (hc : h.2 a = .inl (t, n, .inr (.inr (.inr (.inl f))))) (hin : vp_in i n) (kk : mi_WX QX P X k d mc ms (pc + 1) lv (.double (f i.toNatClampNeg) :: st) h Q) : mi_WX QX P X k d mc ms pc lv (.int i :: .ref a :: st) h Q := by
  intro p l e R s m args below meth c H locs cells slots Z D dA b0 xa ls F hS hmc hms hR hl hZ
  have he := mi_w_at (dA := dA) (E := P.2.2.2.2.2.1) (b0 := b0) (xa := xa) (h := h) hE ha
  rw [hc] at he
  exact va_dald F.1 F.2.1 F.2.2.2.2.2.2.2.2.2.2.2.1 hR.2.2 _ t he (mi_tys_at htt) hin (ht pc _ (mi_at_mem hi)) (kk p l e R s m args below meth c H locs cells slots Z D dA b0 xa ls F hS hmc hms hR hl hZ)
set_option maxHeartbeats 4000000 in
theorem mi_dast (ht : mi_tb (P.2.2.2.1 k).2.1 tb) {a t n : Nat} {f : Nat → UInt64} {i : Int32} {x : UInt64} (hi : mi_at tb pc = some .dastore) (htt : P.2.2.2.2.1[t]? = some .double) (hE : P.2.2.2.2.2.1 ≤ a) (ha : a < h.1) (hc : h.2 a = .inl (t, n, .inr (.inr (.inr (.inl f))))) (hin : vp_in i n) (kk : mi_WX QX P X k d mc ms (pc + 1) lv st (h.1, va_up h.2 a (.inl (t, n, .inr (.inr (.inr (.inl (va_up f i.toNatClampNeg x))))))) Q) : mi_WX QX P X k d mc ms pc lv (.double x :: .int i :: .ref a :: st) h Q := by
  intro p l e R s m args below meth c H locs cells slots Z D dA b0 xa ls F hS hmc hms hR hl hZ
  have he := mi_w_at (dA := dA) (E := P.2.2.2.2.2.1) (b0 := b0) (xa := xa) (h := h) hE ha
  rw [hc] at he
  refine W.dast F.1 F.2.1 (hR.2.2 _ _ he) ((F.2.2.2.2.2.2.2.2.2.2.2.1.2 t _ (mi_tys_at htt)).1 n (fun j => .double (f j))) (fun q => by cases q) (by show ¬ (i < 0 ∨ (arrV _ _ _).slots.size ≤ _); rw [arrV_size]; exact hin) rfl rfl (ht pc _ (mi_at_mem hi)) fun H1 e1 z oq => ?_
  refine kk p l e R s m args below meth c H1 _ cells slots Z D dA b0 xa ls F (hS.put z oq (mi_ad_in hE)) hmc hms (hR.put hE ha _ ?_ z oq) hl hZ
  show H1[_]? = some (vp_cell (dA t) (n, _))
  rw [e1]
  show some ((arrV (dA t) n (fun j => .double (f j))).setSlot _ _) = some (arrV (dA t) n (fun j => .double (va_up f i.toNatClampNeg x j)))
  rw [arrV_store]
  congr 2
  funext q
  by_cases hq : q = i.toNatClampNeg
  · subst hq
    simp [updV, va_up]
  · simp [updV, va_up, hq]
theorem mi_aald (ht : mi_tb (P.2.2.2.1 k).2.1 tb) {a t n : Nat} {C : String} {f : Nat → Option Nat} {i : Int32} (hi : mi_at tb pc = some .aaload) (htt : P.2.2.2.2.1[t]? = some (.object C)) (hE : P.2.2.2.2.2.1 ≤ a) (ha : a < h.1) (hc : h.2 a = .inl (t, n, .inr (.inr (.inr (.inr f))))) (hin : vp_in i n) (kk : mi_WX QX P X k d mc ms (pc + 1) lv (va_rf (f i.toNatClampNeg) :: st) h Q) : mi_WX QX P X k d mc ms pc lv (.int i :: .ref a :: st) h Q := by
  intro p l e R s m args below meth c H locs cells slots Z D dA b0 xa ls F hS hmc hms hR hl hZ
  have he := mi_w_at (dA := dA) (E := P.2.2.2.2.2.1) (b0 := b0) (xa := xa) (h := h) hE ha
  rw [hc] at he
  refine va_aldq F.1 F.2.1 F.2.2.2.2.2.2.2.2.2.2.2.1 hR.2.2 _ t he (mi_tys_at htt) hin (ht pc _ (mi_at_mem hi)) ?_
  rw [mi_rf]
  exact kk p l e R s m args below meth c H locs cells slots Z D dA b0 xa ls F hS hmc hms hR hl hZ
set_option maxHeartbeats 4000000 in
theorem mi_aast (ht : mi_tb (P.2.2.2.1 k).2.1 tb) {a t n ci v : Nat} {r : vw_C} {vs : List Value} {f : Nat → Option Nat} {i : Int32} (hi : mi_at tb pc = some .aastore) (htt : P.2.2.2.2.1[t]? = some (.object r.1)) (hE : P.2.2.2.2.2.1 ≤ a) (ha : a < h.1) (hc : h.2 a = .inl (t, n, .inr (.inr (.inr (.inr f))))) (hvE : P.2.2.2.2.2.1 ≤ v) (hva : v < h.1) (hv : h.2 v = .inr (ci, vs)) (hr : P.1[ci]? = some r) (hin : vp_in i n) (kk : mi_WX QX P X k d mc ms (pc + 1) lv st (h.1, va_up h.2 a (.inl (t, n, .inr (.inr (.inr (.inr (va_up f i.toNatClampNeg (some v)))))))) Q) : mi_WX QX P X k d mc ms pc lv (.ref v :: .int i :: .ref a :: st) h Q := by
  intro p l e R s m args below meth c H locs cells slots Z D dA b0 xa ls F hS hmc hms hR hl hZ
  have he := mi_w_at (dA := dA) (E := P.2.2.2.2.2.1) (b0 := b0) (xa := xa) (h := h) hE ha
  rw [hc] at he
  have hev := mi_w_at (dA := dA) (E := P.2.2.2.2.2.1) (b0 := b0) (xa := xa) (h := h) hvE hva
  rw [hv] at hev
  have hlt : i.toNatClampNeg < n := Nat.not_le.mp fun q => hin (Or.inr q)
  have h0 : ¬ i < 0 := fun q => hin (Or.inl q)
  have hK := F.2.2.2.2.2.2.2.2.2.2.2.1
  obtain ⟨r', hr', cellV, g1, g2, g3, -⟩ := hR.2.2 _ _ hev
  have hcls := (hK.1 ci r hr).2
  obtain ⟨kA, comp, k1, k2, k3, -⟩ := (hK.2 t _ (mi_tys_at htt)).2
  have hcomp : comp = D.1 ci := Option.some.inj (k3.symm.trans hcls.1)
  subst hcomp
  obtain ⟨kC, hkC, -⟩ := hcls.2
  refine W.aast F.1 F.2.1 (hR.2.2 _ _ he) (fun q h => by cases h) (fun h => by cases h) k1 k2 rfl hkC ⟨h0, by show _ < (arrV _ _ _).slots.size; rw [arrV_size]; exact hlt⟩ g1 (fun q h => by rw [g3] at h; cases h) (by rw [g2]; exact hkC) (by rw [g2]; exact va_assign hcls) rfl rfl (ht pc _ (mi_at_mem hi)) fun H1 e1 z oq => ?_
  refine kk p l e R s m args below meth c H1 _ cells slots Z D dA b0 xa ls F (hS.put z oq (mi_ad_in hE)) hmc hms (hR.put hE ha _ ?_ z oq) hl hZ
  show H1[_]? = some (vp_cell (dA t) (n, _))
  rw [e1]
  show some ((arrV (dA t) n (fun j => va_rf ((f j).map (mi_ad P.2.2.2.2.2.1 b0 xa)))).setSlot _ _) = some (arrV (dA t) n (fun j => va_rf ((va_up f i.toNatClampNeg (some v) j).map (mi_ad P.2.2.2.2.2.1 b0 xa))))
  rw [arrV_store]
  congr 2
  funext q
  by_cases hq : q = i.toNatClampNeg
  · subst hq
    simp [updV, va_up, va_rf]
  · simp [updV, va_up, hq]
theorem mi_alen (ht : mi_tb (P.2.2.2.1 k).2.1 tb) {a t : Nat} {x : vp_A} {ty : FieldType} (hi : mi_at tb pc = some .arraylength) (htt : P.2.2.2.2.1[t]? = some ty) (hE : P.2.2.2.2.2.1 ≤ a) (ha : a < h.1) (hc : h.2 a = .inl (t, x)) (kk : mi_WX QX P X k d mc ms (pc + 1) lv (.int (Int32.ofNat x.1) :: st) h Q) : mi_WX QX P X k d mc ms pc lv (.ref a :: st) h Q := by
  intro p l e R s m args below meth c H locs cells slots Z D dA b0 xa ls F hS hmc hms hR hl hZ
  have he := mi_w_at (dA := dA) (E := P.2.2.2.2.2.1) (b0 := b0) (xa := xa) (h := h) hE ha
  rw [hc] at he
  exact va_alen F.1 F.2.1 F.2.2.2.2.2.2.2.2.2.2.2.1 hR.2.2 _ t he (mi_tys_at htt) rfl (ht pc _ (mi_at_mem hi)) (kk p l e R s m args below meth c H locs cells slots Z D dA b0 xa ls F hS hmc hms hR hl hZ)
theorem mi_xld (ht : mi_tb (P.2.2.2.1 k).2.1 tb) {a : Nat} {i : Int32} (hi : mi_at tb pc = some .iaload) (hE : a + 1 < P.2.2.2.2.2.1) (hin : vp_in i (X a).1) (kk : mi_WX QX P X k d mc ms (pc + 1) lv (.int ((X a).2 i.toNatClampNeg) :: st) h Q) : mi_WX QX P X k d mc ms pc lv (.int i :: .ref a :: st) h Q := by
  intro p l e R s m args below meth c H locs cells slots Z D dA b0 xa ls F hS hmc hms hR hl hZ
  have hx := F.2.2.2.2.2.2.2.2.2.2.2.2.1 a hE
  rw [show xa a = (mi_ad P.2.2.2.2.2.1 b0 xa) a from (if_pos (Nat.lt_of_succ_lt hE)).symm] at hx
  exact va_ti F.1 F.2.1 hx hS hin rfl (ht pc _ (mi_at_mem hi)) (kk p l e R s m args below meth c H locs cells slots Z D dA b0 xa ls F hS hmc hms hR hl hZ)
theorem mi_xlen (ht : mi_tb (P.2.2.2.1 k).2.1 tb) {a : Nat} (hi : mi_at tb pc = some .arraylength) (hE : a + 1 < P.2.2.2.2.2.1) (kk : mi_WX QX P X k d mc ms (pc + 1) lv (.int (Int32.ofNat (X a).1) :: st) h Q) : mi_WX QX P X k d mc ms pc lv (.ref a :: st) h Q := by
  intro p l e R s m args below meth c H locs cells slots Z D dA b0 xa ls F hS hmc hms hR hl hZ
  have hx := F.2.2.2.2.2.2.2.2.2.2.2.2.1 a hE
  rw [show xa a = (mi_ad P.2.2.2.2.2.1 b0 xa) a from (if_pos (Nat.lt_of_succ_lt hE)).symm] at hx
  exact va_tlen F.1 F.2.1 hx hS rfl (ht pc _ (mi_at_mem hi)) (kk p l e R s m args below meth c H locs cells slots Z D dA b0 xa ls F hS hmc hms hR hl hZ)
theorem mi_gets (ht : mi_tb (P.2.2.2.1 k).2.1 tb) {index a : Nat} {C n ds : String} (hi : mi_at tb pc = some (.getstatic index)) (hs : (C, n, ds, a) ∈ P.2.2.2.2.2.2.1) (hl' : Cond.fieldLink (P.2.2.2.1 k).1.cls index C n ds ∈ P.2.1) (kk : mi_WX QX P X k d mc ms (pc + 3) lv (.ref a :: st) h Q) : mi_WX QX P X k d mc ms pc lv st h Q := by
  intro p l e R s m args below meth c H locs cells slots Z D dA b0 xa ls F hS hmc hms hR hl hZ
  obtain ⟨hE, hz⟩ := F.2.2.2.2.2.2.2.2.2.2.2.2.2.1.1 _ hs
  have hk := kk p l e R s m args below meth c H locs cells slots Z D dA b0 xa ls F hS hmc hms hR hl hZ
  have e1 : mi_V (mi_ad P.2.2.2.2.2.1 b0 xa) (.ref a) = .ref (xa a) := congrArg Value.ref (if_pos hE)
  rw [List.map_cons, e1] at hk
  exact va_gets F.1 F.2.1 hz hS F.2.2.2.1 (F.2.2.2.2.1 _ hl') (fun _ q => q) (ht pc _ (mi_at_mem hi)) hk
end MIR
