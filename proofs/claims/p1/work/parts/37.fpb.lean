def sp_difs_0 : List UInt64 := [13867779521324777472, 13867621191650377728, 13867357308859711488, 13867146202627178496, 13866987872952778752]
set_option maxRecDepth 100000 in
theorem dr_sb_0 : sp_difs_0.all (fun x => (List.range 30).all fun d => dr_cs x (nI d)) = true := by decide +kernel
def sp_difs_1 : List UInt64 := [13866829543278379008, 13866723990162112512, 13866548068301668352, 13866442515185401856, 13866125855836602368]
set_option maxRecDepth 100000 in
theorem dr_sb_1 : sp_difs_1.all (fun x => (List.range 30).all fun d => dr_cs x (nI d)) = true := by decide +kernel
def sp_difs_2 : List UInt64 := [13866020302720335872, 13865809196487802880, 13865598090255269888, 13865492537139003392, 13865175877790203904]
set_option maxRecDepth 100000 in
theorem dr_sb_2 : sp_difs_2.all (fun x => (List.range 30).all fun d => dr_cs x (nI d)) = true := by decide +kernel
def sp_difs_3 : List UInt64 := [13864964771557670912, 13864859218441404416, 13864753665325137920, 13864542559092604928, 13864437005976338432]
set_option maxRecDepth 100000 in
theorem dr_sb_3 : sp_difs_3.all (fun x => (List.range 30).all fun d => dr_cs x (nI d)) = true := by decide +kernel
def sp_difs_4 : List UInt64 := [13864331452860071936, 13864225899743805440, 13863909240395005952, 13863592581046206464, 13863487027929939968]
set_option maxRecDepth 100000 in
theorem dr_sb_4 : sp_difs_4.all (fun x => (List.range 30).all fun d => dr_cs x (nI d)) = true := by decide +kernel
def sp_difs_5 : List UInt64 := [13863381474813673472, 13863275921697406976, 13863064815464873984, 13862959262348607488, 13862853709232340992]
set_option maxRecDepth 100000 in
theorem dr_sb_5 : sp_difs_5.all (fun x => (List.range 30).all fun d => dr_cs x (nI d)) = true := by decide +kernel
def sp_difs_6 : List UInt64 := [13862642602999808000, 13862325943651008512, 13862220390534742016, 13861938915558031360, 13861516703092965376]
set_option maxRecDepth 100000 in
theorem dr_sb_6 : sp_difs_6.all (fun x => (List.range 30).all fun d => dr_cs x (nI d)) = true := by decide +kernel
def sp_difs_7 : List UInt64 := [13861305596860432384, 13860672278162833408, 13860461171930300416, 13860038959465234432, 13859827853232701440]
set_option maxRecDepth 100000 in
theorem dr_sb_7 : sp_difs_7.all (fun x => (List.range 30).all fun d => dr_cs x (nI d)) = true := by decide +kernel
def sp_difs_8 : List UInt64 := [13859405640767635456, 13858983428302569472, 13858772322070036480, 13858350109604970496, 13858139003372437504]
set_option maxRecDepth 100000 in
theorem dr_sb_8 : sp_difs_8.all (fun x => (List.range 30).all fun d => dr_cs x (nI d)) = true := by decide +kernel
def sp_difs_9 : List UInt64 := [13857435315930660864, 13857013103465594880, 13856168678535462912, 13855324253605330944, 13854902041140264960]
set_option maxRecDepth 100000 in
theorem dr_sb_9 : sp_difs_9.all (fun x => (List.range 30).all fun d => dr_cs x (nI d)) = true := by decide +kernel
def sp_difs_10 : List UInt64 := [13853635403745067008, 13852509503838224384, 13851665078908092416, 13850820653977960448, 13849131804117696512]
set_option maxRecDepth 100000 in
theorem dr_sb_10 : sp_difs_10.all (fun x => (List.range 30).all fun d => dr_cs x (nI d)) = true := by decide +kernel
def sp_difs_11 : List UInt64 := [13848005904210853888, 13846317054350589952, 13844628204490326016, 0, 4621256167635550208]
set_option maxRecDepth 100000 in
theorem dr_sb_11 : sp_difs_11.all (fun x => (List.range 30).all fun d => dr_cs x (nI d)) = true := by decide +kernel
def sp_difs_12 : List UInt64 := [4622945017495814144, 4624633867356078080, 4625759767262920704, 4627448617123184640, 4628293042053316608]
set_option maxRecDepth 100000 in
theorem dr_sb_12 : sp_difs_12.all (fun x => (List.range 30).all fun d => dr_cs x (nI d)) = true := by decide +kernel
def sp_difs_13 : List UInt64 := [4629137466983448576, 4630263366890291200, 4631530004285489152, 4631952216750555136, 4632796641680687104]
set_option maxRecDepth 100000 in
theorem dr_sb_13 : sp_difs_13.all (fun x => (List.range 30).all fun d => dr_cs x (nI d)) = true := by decide +kernel
def sp_difs_14 : List UInt64 := [4633641066610819072, 4634063279075885056, 4634766966517661696, 4634978072750194688, 4635400285215260672]
set_option maxRecDepth 100000 in
theorem dr_sb_14 : sp_difs_14.all (fun x => (List.range 30).all fun d => dr_cs x (nI d)) = true := by decide +kernel
def sp_difs_15 : List UInt64 := [4635611391447793664, 4636033603912859648, 4636455816377925632, 4636666922610458624, 4637089135075524608]
set_option maxRecDepth 100000 in
theorem dr_sb_15 : sp_difs_15.all (fun x => (List.range 30).all fun d => dr_cs x (nI d)) = true := by decide +kernel
def sp_difs_16 : List UInt64 := [4637300241308057600, 4637933560005656576, 4638144666238189568, 4638566878703255552, 4638848353679966208]
set_option maxRecDepth 100000 in
theorem dr_sb_16 : sp_difs_16.all (fun x => (List.range 30).all fun d => dr_cs x (nI d)) = true := by decide +kernel
def sp_difs_17 : List UInt64 := [4638953906796232704, 4639270566145032192, 4639481672377565184, 4639587225493831680, 4639692778610098176]
set_option maxRecDepth 100000 in
theorem dr_sb_17 : sp_difs_17.all (fun x => (List.range 30).all fun d => dr_cs x (nI d)) = true := by decide +kernel
def sp_difs_18 : List UInt64 := [4639903884842631168, 4640009437958897664, 4640114991075164160, 4640220544191430656, 4640537203540230144]
set_option maxRecDepth 100000 in
theorem dr_sb_18 : sp_difs_18.all (fun x => (List.range 30).all fun d => dr_cs x (nI d)) = true := by decide +kernel
def sp_difs_19 : List UInt64 := [4640853862889029632, 4640959416005296128, 4641064969121562624, 4641170522237829120, 4641381628470362112]
set_option maxRecDepth 100000 in
theorem dr_sb_19 : sp_difs_19.all (fun x => (List.range 30).all fun d => dr_cs x (nI d)) = true := by decide +kernel
def sp_difs_20 : List UInt64 := [4641487181586628608, 4641592734702895104, 4641803840935428096, 4642120500284227584, 4642226053400494080]
set_option maxRecDepth 100000 in
theorem dr_sb_20 : sp_difs_20.all (fun x => (List.range 30).all fun d => dr_cs x (nI d)) = true := by decide +kernel
def sp_difs_21 : List UInt64 := [4642437159633027072, 4642648265865560064, 4642753818981826560, 4643070478330626048, 4643176031446892544]
set_option maxRecDepth 100000 in
theorem dr_sb_21 : sp_difs_21.all (fun x => (List.range 30).all fun d => dr_cs x (nI d)) = true := by decide +kernel
def sp_difs_22 : List UInt64 := [4643351953307336704, 4643457506423603200, 4643615836098002944, 4643774165772402688, 4643985272004935680]
set_option maxRecDepth 100000 in
theorem dr_sb_22 : sp_difs_22.all (fun x => (List.range 30).all fun d => dr_cs x (nI d)) = true := by decide +kernel
def sp_difs_23 : List UInt64 := [4644249154795601920, 4644407484470001664]
set_option maxRecDepth 100000 in
theorem dr_sb_23 : sp_difs_23.all (fun x => (List.range 30).all fun d => dr_cs x (nI d)) = true := by decide +kernel
theorem sp_difs_eq : sp_difs = sp_difs_0 ++ (sp_difs_1 ++ (sp_difs_2 ++ (sp_difs_3 ++ (sp_difs_4 ++ (sp_difs_5 ++ (sp_difs_6 ++ (sp_difs_7 ++ (sp_difs_8 ++ (sp_difs_9 ++ (sp_difs_10 ++ (sp_difs_11 ++ (sp_difs_12 ++ (sp_difs_13 ++ (sp_difs_14 ++ (sp_difs_15 ++ (sp_difs_16 ++ (sp_difs_17 ++ (sp_difs_18 ++ (sp_difs_19 ++ (sp_difs_20 ++ (sp_difs_21 ++ (sp_difs_22 ++ (sp_difs_23))))))))))))))))))))))) := by decide +kernel
theorem all_app {α : Type} {f : α → Bool} {a b : List α} (ha : a.all f = true) (hb : b.all f = true) : (a ++ b).all f = true := by rw [List.all_append, ha, hb]; rfl
theorem dr_sb : sp_difs.all (fun x => (List.range 30).all fun d => dr_cs x (nI d)) = true := by
  rw [sp_difs_eq]
  exact (all_app dr_sb_0 (all_app dr_sb_1 (all_app dr_sb_2 (all_app dr_sb_3 (all_app dr_sb_4 (all_app dr_sb_5 (all_app dr_sb_6 (all_app dr_sb_7 (all_app dr_sb_8 (all_app dr_sb_9 (all_app dr_sb_10 (all_app dr_sb_11 (all_app dr_sb_12 (all_app dr_sb_13 (all_app dr_sb_14 (all_app dr_sb_15 (all_app dr_sb_16 (all_app dr_sb_17 (all_app dr_sb_18 (all_app dr_sb_19 (all_app dr_sb_20 (all_app dr_sb_21 (all_app dr_sb_22 dr_sb_23)))))))))))))))))))))))
