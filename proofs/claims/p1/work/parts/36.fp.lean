-- where the SECTORS lie: zone, first, many
def sp_z (s : Int32) : Int32 := if s < 60 then 0 else if s < 140 then 1 else 2
def sp_f (s : Int32) : Int32 := if s < 60 then 0 else if s < 140 then 60 else 140
def sp_m (s : Int32) : Int32 := if s < 60 then 6 else if s < 140 then 8 else 10
def sp_turn (s : Int32) : Int32 := sp_z s * 10 + (s - sp_f s) / sp_m s
def sp_in (s : Int32) : Int32 := (s - sp_f s) - (s - sp_f s) / sp_m s * sp_m s
def sp_ang (s : Int32) : UInt64 := FP.ddiv (FP.dmul (FP.i2d (sp_in s)) 4645040803167600640) (FP.i2d (sp_m s))
def sp_spd (s : Int32) : UInt32 := if sp_z s = 0 then FP.fconst1 else if sp_z s = 1 then 1067450368 else 1069547520
def n64 (r : UInt64) : Bool := decide (r &&& 0x7fffffffffffffff ≤ 0x7ff0000000000000)
theorem n64_ok {r : UInt64} (h : n64 r = true) : vf_n64 r := by
  have h2 : r &&& 0x7fffffffffffffff ≤ 0x7ff0000000000000 := of_decide_eq_true h
  exact h2
def sp_angs : List UInt64 := [0, 4630263366890291200, 4631530004285489152, 4633641066610819072, 4634766966517661696, 4636033603912859648, 4637300241308057600, 4638144666238189568, 4638953906796232704, 4639270566145032192, 4640537203540230144, 4641803840935428096, 4642120500284227584, 4642648265865560064, 4643070478330626048, 4643457506423603200, 4643774165772402688, 4643985272004935680, 4644249154795601920, 4644407484470001664]
def sp_difs : List UInt64 := [13867779521324777472, 13867621191650377728, 13867357308859711488, 13867146202627178496, 13866987872952778752, 13866829543278379008, 13866723990162112512, 13866548068301668352, 13866442515185401856, 13866125855836602368, 13866020302720335872, 13865809196487802880, 13865598090255269888, 13865492537139003392, 13865175877790203904, 13864964771557670912, 13864859218441404416, 13864753665325137920, 13864542559092604928, 13864437005976338432, 13864331452860071936, 13864225899743805440, 13863909240395005952, 13863592581046206464, 13863487027929939968, 13863381474813673472, 13863275921697406976, 13863064815464873984, 13862959262348607488, 13862853709232340992, 13862642602999808000, 13862325943651008512, 13862220390534742016, 13861938915558031360, 13861516703092965376, 13861305596860432384, 13860672278162833408, 13860461171930300416, 13860038959465234432, 13859827853232701440, 13859405640767635456, 13858983428302569472, 13858772322070036480, 13858350109604970496, 13858139003372437504, 13857435315930660864, 13857013103465594880, 13856168678535462912, 13855324253605330944, 13854902041140264960, 13853635403745067008, 13852509503838224384, 13851665078908092416, 13850820653977960448, 13849131804117696512, 13848005904210853888, 13846317054350589952, 13844628204490326016, 0, 4621256167635550208, 4622945017495814144, 4624633867356078080, 4625759767262920704, 4627448617123184640, 4628293042053316608, 4629137466983448576, 4630263366890291200, 4631530004285489152, 4631952216750555136, 4632796641680687104, 4633641066610819072, 4634063279075885056, 4634766966517661696, 4634978072750194688, 4635400285215260672, 4635611391447793664, 4636033603912859648, 4636455816377925632, 4636666922610458624, 4637089135075524608, 4637300241308057600, 4637933560005656576, 4638144666238189568, 4638566878703255552, 4638848353679966208, 4638953906796232704, 4639270566145032192, 4639481672377565184, 4639587225493831680, 4639692778610098176, 4639903884842631168, 4640009437958897664, 4640114991075164160, 4640220544191430656, 4640537203540230144, 4640853862889029632, 4640959416005296128, 4641064969121562624, 4641170522237829120, 4641381628470362112, 4641487181586628608, 4641592734702895104, 4641803840935428096, 4642120500284227584, 4642226053400494080, 4642437159633027072, 4642648265865560064, 4642753818981826560, 4643070478330626048, 4643176031446892544, 4643351953307336704, 4643457506423603200, 4643615836098002944, 4643774165772402688, 4643985272004935680, 4644249154795601920, 4644407484470001664]
set_option maxRecDepth 100000 in
theorem ang_b : (List.range 240).all (fun k => n64 (FP.dmul (FP.i2d (sp_in (nI k))) 4645040803167600640) && (n64 (sp_ang (nI k)) && sp_angs.contains (sp_ang (nI k)))) = true := by decide +kernel
set_option maxRecDepth 100000 in
theorem dif_b : sp_angs.all (fun x => sp_angs.all fun y => n64 (FP.dsub x y) && sp_difs.contains (FP.dsub x y)) = true := by decide +kernel
theorem ang_ok {k : Nat} (hk : k < 240) : vf_n64 (FP.dmul (FP.i2d (sp_in (nI k))) 4645040803167600640) ∧ vf_n64 (sp_ang (nI k)) ∧ sp_ang (nI k) ∈ sp_angs := by
  have h := List.all_eq_true.mp ang_b k (List.mem_range.mpr hk)
  rw [Bool.and_eq_true, Bool.and_eq_true] at h
  exact ⟨n64_ok h.1, n64_ok h.2.1, List.contains_iff_mem.mp h.2.2⟩
theorem dif_ok {x y : UInt64} (hx : x ∈ sp_angs) (hy : y ∈ sp_angs) : vf_n64 (FP.dsub x y) ∧ FP.dsub x y ∈ sp_difs := by
  have h := List.all_eq_true.mp (List.all_eq_true.mp dif_b x hx) y hy
  rw [Bool.and_eq_true] at h
  exact ⟨n64_ok h.1, List.contains_iff_mem.mp h.2⟩
-- turns, and how far they are apart
def sp_tn (k : Nat) : Nat := if k < 60 then k / 6 else if k < 140 then 10 + (k - 60) / 8 else 20 + (k - 140) / 10
set_option maxRecDepth 100000 in
theorem tn_b : (List.range 240).all (fun k => decide (sp_turn (nI k) = nI (sp_tn k)) && decide (sp_tn k < 30)) = true := by decide +kernel
theorem tn_ok {k : Nat} (hk : k < 240) : sp_turn (nI k) = nI (sp_tn k) ∧ sp_tn k < 30 := by
  have h := List.all_eq_true.mp tn_b k (List.mem_range.mpr hk)
  rw [Bool.and_eq_true] at h
  exact ⟨of_decide_eq_true h.1, of_decide_eq_true h.2⟩
def sp_ap (a b : Nat) : Nat := if b ≤ a then a - b else b - a
set_option maxRecDepth 100000 in
theorem ap_b : (List.range 30).all (fun a => (List.range 30).all fun b => decide (mk_abs (nI a - nI b) = nI (sp_ap a b)) && decide (sp_ap a b < 30)) = true := by decide +kernel
theorem ap_ok {a b : Nat} (ha : a < 30) (hb : b < 30) : mk_abs (nI a - nI b) = nI (sp_ap a b) ∧ sp_ap a b < 30 := by
  have h := List.all_eq_true.mp (List.all_eq_true.mp ap_b a (List.mem_range.mpr ha)) b (List.mem_range.mpr hb)
  rw [Bool.and_eq_true] at h
  exact ⟨of_decide_eq_true h.1, of_decide_eq_true h.2⟩
-- the way between two: by the difference of their angles and of their turns
def dr_t (d : Int32) : UInt64 := FP.dadd 4611686018427387904 (FP.dmul 4598175219545276416 (FP.i2d d))
def dr_a (x t : UInt64) : UInt64 := FP.dsub x (FP.dmul 4636033603912859648 t)
def dr_r0 (a : UInt64) : UInt64 := FP.dsub a (FP.dmul 4645040803167600640 (FP.i2d (FP.d2i (FP.ddiv a 4645040803167600640))))
def dr_r (a : UInt64) : UInt64 := if 0 ≤ Op.cmpValue (FP.dcmp (dr_r0 a) FP.dconst0) .g then dr_r0 a else FP.dadd (dr_r0 a) 4645040803167600640
def dr_s (x : UInt64) (d : Int32) : UInt64 := FP.dadd (dr_t d) (FP.ddiv (dr_r (dr_a x (dr_t d))) 4636033603912859648)
def dr_ct (d : Int32) : Bool := n64 (FP.dmul 4598175219545276416 (FP.i2d d)) && (n64 (dr_t d) && n64 (FP.dmul 4636033603912859648 (dr_t d)))
def dr_cr (a : UInt64) : Bool := n64 (FP.ddiv a 4645040803167600640) && (n64 (FP.dmul 4645040803167600640 (FP.i2d (FP.d2i (FP.ddiv a 4645040803167600640)))) && (n64 (dr_r0 a) && n64 (FP.dadd (dr_r0 a) 4645040803167600640)))
def dr_cs (x : UInt64) (d : Int32) : Bool := n64 (dr_a x (dr_t d)) && (dr_cr (dr_a x (dr_t d)) && (n64 (FP.ddiv (dr_r (dr_a x (dr_t d))) 4636033603912859648) && (n64 (dr_s x d) && decide (dr_s x d ≤ 4624070917402656768))))
set_option maxRecDepth 100000 in
theorem dr_tb : (List.range 30).all (fun d => dr_ct (nI d)) = true := by decide +kernel
