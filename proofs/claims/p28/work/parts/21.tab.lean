def pT : List Cond := lw_tbl.filter goodWord
theorem pT_mem {w : Cond} (i : Nat) (h : lw_tbl[i]? = some w) (hg : goodWord w = true) : w ∈ pT := List.mem_filter.mpr ⟨List.mem_of_getElem? h, hg⟩
def pN : List Cond := [(Jvm.Cond.arrayOver (Jvm.ClassFile.FieldType.object "PitHouse$Sector")), (Jvm.Cond.arrayOver (Jvm.ClassFile.FieldType.object "PitHouse$Track")), (Jvm.Cond.methodLinkNest "PitHouse" (23 : Nat) ({ cls := "PitHouse$FileTable", name := "<init>", desc := "()V" } : Jvm.MethodName) "PitHouse"), (Jvm.Cond.arrayOver (Jvm.ClassFile.FieldType.array Jvm.ClassFile.FieldType.int)), (Jvm.Cond.methodLinkNest "PitHouse" (30 : Nat) ({ cls := "PitHouse$Drive", name := "<init>", desc := "()V" } : Jvm.MethodName) "PitHouse"), (Jvm.Cond.fieldLinkNest "PitHouse" (199 : Nat) "PitHouse$Drive" "head" "I" "PitHouse"), (Jvm.Cond.fieldLinkNest "PitHouse" (206 : Nat) "PitHouse$Drive" "clock" "D" "PitHouse"), (Jvm.Cond.fieldLinkNest "PitHouse" (298 : Nat) "PitHouse$Drive" "reads" "I" "PitHouse"), (Jvm.Cond.fieldLinkNest "PitHouse" (182 : Nat) "PitHouse$Drive" "isTrayOpen" "Z" "PitHouse"), (Jvm.Cond.fieldLinkNest "PitHouse" (185 : Nat) "PitHouse$Drive" "refusals" "I" "PitHouse"), (Jvm.Cond.methodLinkNest "PitHouse" (37 : Nat) ({ cls := "PitHouse$Bench", name := "<init>", desc := "()V" } : Jvm.MethodName) "PitHouse"), (Jvm.Cond.methodLinkNest "PitHouse$Bench" (9 : Nat) ({ cls := "PitHouse$Block", name := "<init>", desc := "()V" } : Jvm.MethodName) "PitHouse"), (Jvm.Cond.fieldLinkNest "PitHouse$Sector" (118 : Nat) "PitHouse$Block" "erased" "I" "PitHouse"), (Jvm.Cond.fieldLinkNest "PitHouse" (214 : Nat) "PitHouse$Block" "erased" "I" "PitHouse"), (Jvm.Cond.methodLinkNest "PitHouse$Bench" (18 : Nat) ({ cls := "PitHouse$Marks", name := "<init>", desc := "()V" } : Jvm.MethodName) "PitHouse"), (Jvm.Cond.fieldLinkNest "PitHouse$Sector" (116 : Nat) "PitHouse$Marks" "dsv" "I" "PitHouse"), (Jvm.Cond.fieldLinkNest "PitHouse$Sector" (115 : Nat) "PitHouse$Marks" "turns" "I" "PitHouse"), (Jvm.Cond.fieldLinkNest "PitHouse$Sector" (117 : Nat) "PitHouse$Marks" "farthest" "I" "PitHouse"), (Jvm.Cond.fieldLinkNest "PitHouse$Sector" (101 : Nat) "PitHouse$Bench" "copy" "LPitHouse$Block;" "PitHouse"), (Jvm.Cond.fieldLinkNest "PitHouse" (316 : Nat) "PitHouse$Bench" "copy" "LPitHouse$Block;" "PitHouse"), (Jvm.Cond.fieldLinkNest "PitHouse$Sector" (106 : Nat) "PitHouse$Bench" "marks" "LPitHouse$Marks;" "PitHouse"), (Jvm.Cond.methodLinkNest "PitHouse$Sector" (11 : Nat) ({ cls := "PitHouse$Block", name := "<init>", desc := "()V" } : Jvm.MethodName) "PitHouse"), (Jvm.Cond.fieldLinkNest "PitHouse" (210 : Nat) "PitHouse$Sector" "block" "LPitHouse$Block;" "PitHouse"), (Jvm.Cond.fieldLinkNest "PitHouse" (169 : Nat) "PitHouse$Sector" "isWritten" "Z" "PitHouse"), (Jvm.Cond.fieldLinkNest "PitHouse" (196 : Nat) "PitHouse$Sector" "state" "I" "PitHouse"), (Jvm.Cond.fieldLinkNest "PitHouse" (238 : Nat) "PitHouse$Sector" "mended" "J" "PitHouse"), (Jvm.Cond.fieldLinkNest "PitHouse" (224 : Nat) "PitHouse$Sector" "turns" "I" "PitHouse"), (Jvm.Cond.fieldLinkNest "PitHouse" (227 : Nat) "PitHouse$Sector" "dsv" "I" "PitHouse"), (Jvm.Cond.fieldLinkNest "PitHouse" (230 : Nat) "PitHouse$Sector" "farthest" "I" "PitHouse"), (Jvm.Cond.methodLinkNest "PitHouse" (62 : Nat) ({ cls := "PitHouse$Track", name := "<init>", desc := "()V" } : Jvm.MethodName) "PitHouse"), (Jvm.Cond.fieldLinkNest "PitHouse" (257 : Nat) "PitHouse$Track" "session" "I" "PitHouse"), (Jvm.Cond.fieldLinkNest "PitHouse" (108 : Nat) "PitHouse$Track" "mode" "I" "PitHouse"), (Jvm.Cond.fieldLinkNest "PitHouse" (88 : Nat) "PitHouse$Track" "first" "I" "PitHouse"), (Jvm.Cond.fieldLinkNest "PitHouse" (260 : Nat) "PitHouse$Track" "has" "I" "PitHouse"), (Jvm.Cond.fieldLinkNest "PitHouse" (263 : Nat) "PitHouse$Track" "used" "I" "PitHouse"), (Jvm.Cond.fieldLinkNest "PitHouse" (117 : Nat) "PitHouse$Track" "links" "I" "PitHouse"), (Jvm.Cond.fieldLinkNest "PitHouse" (120 : Nat) "PitHouse$Track" "isClosed" "Z" "PitHouse")]
theorem pN_ok : ∀ w ∈ pN, (∃ a i b n d h, w = Jvm.Cond.fieldLinkNest a i b n d h) ∨ (∃ a i x h, w = Jvm.Cond.methodLinkNest a i x h) ∨ (∃ C, w = Jvm.Cond.arrayOver (.object C)) ∨ ∃ t, w = Jvm.Cond.arrayOver (.array t) := List.forall_mem_cons.mpr ⟨Or.inr (Or.inr (Or.inl ⟨_, rfl⟩)), List.forall_mem_cons.mpr ⟨Or.inr (Or.inr (Or.inl ⟨_, rfl⟩)), List.forall_mem_cons.mpr ⟨Or.inr (Or.inl ⟨_, _, _, _, rfl⟩), List.forall_mem_cons.mpr ⟨Or.inr (Or.inr (Or.inr ⟨_, rfl⟩)), List.forall_mem_cons.mpr ⟨Or.inr (Or.inl ⟨_, _, _, _, rfl⟩), List.forall_mem_cons.mpr ⟨Or.inl ⟨_, _, _, _, _, _, rfl⟩, List.forall_mem_cons.mpr ⟨Or.inl ⟨_, _, _, _, _, _, rfl⟩, List.forall_mem_cons.mpr ⟨Or.inl ⟨_, _, _, _, _, _, rfl⟩, List.forall_mem_cons.mpr ⟨Or.inl ⟨_, _, _, _, _, _, rfl⟩, List.forall_mem_cons.mpr ⟨Or.inl ⟨_, _, _, _, _, _, rfl⟩, List.forall_mem_cons.mpr ⟨Or.inr (Or.inl ⟨_, _, _, _, rfl⟩), List.forall_mem_cons.mpr ⟨Or.inr (Or.inl ⟨_, _, _, _, rfl⟩), List.forall_mem_cons.mpr ⟨Or.inl ⟨_, _, _, _, _, _, rfl⟩, List.forall_mem_cons.mpr ⟨Or.inl ⟨_, _, _, _, _, _, rfl⟩, List.forall_mem_cons.mpr ⟨Or.inr (Or.inl ⟨_, _, _, _, rfl⟩), List.forall_mem_cons.mpr ⟨Or.inl ⟨_, _, _, _, _, _, rfl⟩, List.forall_mem_cons.mpr ⟨Or.inl ⟨_, _, _, _, _, _, rfl⟩, List.forall_mem_cons.mpr ⟨Or.inl ⟨_, _, _, _, _, _, rfl⟩, List.forall_mem_cons.mpr ⟨Or.inl ⟨_, _, _, _, _, _, rfl⟩, List.forall_mem_cons.mpr ⟨Or.inl ⟨_, _, _, _, _, _, rfl⟩, List.forall_mem_cons.mpr ⟨Or.inl ⟨_, _, _, _, _, _, rfl⟩, List.forall_mem_cons.mpr ⟨Or.inr (Or.inl ⟨_, _, _, _, rfl⟩), List.forall_mem_cons.mpr ⟨Or.inl ⟨_, _, _, _, _, _, rfl⟩, List.forall_mem_cons.mpr ⟨Or.inl ⟨_, _, _, _, _, _, rfl⟩, List.forall_mem_cons.mpr ⟨Or.inl ⟨_, _, _, _, _, _, rfl⟩, List.forall_mem_cons.mpr ⟨Or.inl ⟨_, _, _, _, _, _, rfl⟩, List.forall_mem_cons.mpr ⟨Or.inl ⟨_, _, _, _, _, _, rfl⟩, List.forall_mem_cons.mpr ⟨Or.inl ⟨_, _, _, _, _, _, rfl⟩, List.forall_mem_cons.mpr ⟨Or.inl ⟨_, _, _, _, _, _, rfl⟩, List.forall_mem_cons.mpr ⟨Or.inr (Or.inl ⟨_, _, _, _, rfl⟩), List.forall_mem_cons.mpr ⟨Or.inl ⟨_, _, _, _, _, _, rfl⟩, List.forall_mem_cons.mpr ⟨Or.inl ⟨_, _, _, _, _, _, rfl⟩, List.forall_mem_cons.mpr ⟨Or.inl ⟨_, _, _, _, _, _, rfl⟩, List.forall_mem_cons.mpr ⟨Or.inl ⟨_, _, _, _, _, _, rfl⟩, List.forall_mem_cons.mpr ⟨Or.inl ⟨_, _, _, _, _, _, rfl⟩, List.forall_mem_cons.mpr ⟨Or.inl ⟨_, _, _, _, _, _, rfl⟩, List.forall_mem_cons.mpr ⟨Or.inl ⟨_, _, _, _, _, _, rfl⟩, fun _ h => absurd h List.not_mem_nil⟩⟩⟩⟩⟩⟩⟩⟩⟩⟩⟩⟩⟩⟩⟩⟩⟩⟩⟩⟩⟩⟩⟩⟩⟩⟩⟩⟩⟩⟩⟩⟩⟩⟩⟩⟩⟩
theorem pN_in : ∀ w ∈ pN, w ∈ lw_tbl := by
  intro w hw
  have h : pN.all (fun w => lw_tbl.contains w) = true := by decide +kernel
  exact List.contains_iff_mem.mp (List.all_eq_true.mp h w hw)
def pC : List vw_C := [(RX8, TX8, 10), (RX0, TX0, 2), (RX1, TX1, 2), (RX2, TX2, 5), (RX3, TX3, 2), (RX4, TX4, 4), (RX5, TX5, 10), (RX7, TX7, 7), (RX7, TX7, 7)]
def pM : List mi_M := [
  (yX8_init, cX8_init, 2, (none)),
  (yX8_session, cX8_session, 1, (some .int)),
  (yX8_track, cX8_track, 4, (some .int)),
  (yX8_write, cX8_write, 6, (some .int)),
  (yX8_starve, cX8_starve, 3, (some .int)),
  (yX8_close, cX8_close, 4, (some .int)),
  (yX8_scratch, cX8_scratch, 10, (some .int)),
  (yX8_rot, cX8_rot, 5, (some .int)),
  (yX8_read, cX8_read, 2, (some .int)),
  (yX8_clock, cX8_clock, 1, (some .double)),
  (yX8_ofSector, cX8_ofSector, 4, (some .int)),
  (yX8_nibbles, cX8_nibbles, 3, (some .long)),
  (yX8_ofTrack, cX8_ofTrack, 4, (some .int)),
  (yX8_ofFile, cX8_ofFile, 7, (some .int)),
  (yX8_many, cX8_many, 2, (some .int)),
  (yX8_wouldTake, cX8_wouldTake, 3, (some .double)),
  (yX8_wouldMend, cX8_wouldMend, 3, (some .int)),
  (yX8_digest, cX8_digest, 4, (some .long)),
  (yX8_digestTracks, cX8_digestTracks, 7, (some .long)),
  (yX8_digestSectors, cX8_digestSectors, 7, (some .long)),
  (yX8_digestFiles, cX8_digestFiles, 8, (some .long)),
  (yX8_isSector, cX8_isSector, 1, (some .boolean)),
  (yX8_checkSector, cX8_checkSector, 1, (none)),
  (yX8_checkFile, cX8_checkFile, 1, (none)),
  (yX8_trackAt, cX8_trackAt, 2, (some (.object "PitHouse$Track"))),
  (yX8_left, cX8_left, 1, (some .int)),
  (yX8_trackOf, cX8_trackOf, 3, (some .int)),
  (yX8_isGood, cX8_isGood, 2, (some .boolean)),
  (yX8_goodFrom, cX8_goodFrom, 5, (some .int)),
  (yX8_writtenOf, cX8_writtenOf, 4, (some .int)),
  (yX0_init, cX0_init, 1, (none)),
  (yX1_init, cX1_init, 1, (none)),
  (yX1_valueAt, cX1_valueAt, 2, (some .int)),
  (yX1_isErased, cX1_isErased, 2, (some .boolean)),
  (yX1_put, cX1_put, 3, (none)),
  (yX1_erase, cX1_erase, 3, (none)),
  (yX1_copyFrom, cX1_copyFrom, 2, (none)),
  (yX1_spread, cX1_spread, 4, (none)),
  (yX1_gathered, cX1_gathered, 4, (some .long)),
  (yX1_mend, cX1_mend, 4, (none)),
  (yX1_isEven, cX1_isEven, 2, (some .boolean)),
  (yX1_fillErased, cX1_fillErased, 5, (none)),
  (yX1_onlyOddOf, cX1_onlyOddOf, 4, (some .int)),
  (yX1_parityOf, cX1_parityOf, 7, (some .int)),
  (yX1_placeOf, cX1_placeOf, 1, (some .int)),
  (yX2_init, cX2_init, 1, (none)),
  (yX2_seekTime, cX2_seekTime, 6, (some .double)),
  (yX2_restOfTurn, cX2_restOfTurn, 4, (some .double)),
  (yX2_clockBehind, cX2_clockBehind, 6, (some .double)),
  (yX2_headBehind, cX2_headBehind, 1, (some .int)),
  (yX2_passOver, cX2_passOver, 2, (none)),
  (yX2_timeOver, cX2_timeOver, 7, (some .double)),
  (yX3_init, cX3_init, 1, (none)),
  (yX3_tellerOf, cX3_tellerOf, 4, (some .int)),
  (yX3_firstOf, cX3_firstOf, 3, (some .int)),
  (yX3_lengthOf, cX3_lengthOf, 3, (some .int)),
  (yX4_init, cX4_init, 1, (none)),
  (yX4_mark, cX4_mark, 5, (none)),
  (yX4_isJoined, cX4_isJoined, 3, (some .boolean)),
  (yX4_dsvBehind, cX4_dsvBehind, 5, (some .int)),
  (yX4_putBits, cX4_putBits, 3, (none)),
  (yX5_init, cX5_init, 2, (none)),
  (yX5_fillWith, cX5_fillWith, 5, (none)),
  (yX5_eraseColumn, cX5_eraseColumn, 6, (none)),
  (yX5_makeWrong, cX5_makeWrong, 4, (some .boolean)),
  (yX5_raw, cX5_raw, 1, (some .long)),
  (yX5_stateWithout, cX5_stateWithout, 3, (some .int)),
  (yX5_reckon, cX5_reckon, 2, (none)),
  (yX5_judged, cX5_judged, 3, (some .int)),
  (yX5_mixed, cX5_mixed, 7, (some .long)),
  (yX5_sumOf, cX5_sumOf, 4, (some .int)),
  (yX5_nibbleOf, cX5_nibbleOf, 3, (some .int)),
  (yX6_zoneOf, cX6_zoneOf, 1, (some .int)),
  (yX6_turnOf, cX6_turnOf, 2, (some .int)),
  (yX6_angleOf, cX6_angleOf, 3, (some .double)),
  (yX6_speedOf, cX6_speedOf, 2, (some .float)),
  (yX6_positionOf, cX6_positionOf, 3, (some .int)),
  (yX7_init, cX7_init, 1, (none)),
  (yX7_reserve, cX7_reserve, 5, (none)),
  (yX7_behind, cX7_behind, 1, (some .int)),
  (yX7_holds, cX7_holds, 2, (some .boolean)),
  (yX7_hasRoom, cX7_hasRoom, 1, (some .boolean)),
  (yX7_takeNext, cX7_takeNext, 1, (some .int)),
  (yX7_giveBack, cX7_giveBack, 2, (some .int)),
  (yJ6_bitCount_0f7a4, cJ6_bitCount_0f7a4, 1, (some .int)),
  (yJ6_numberOfTrailingZeros_0f7a4, cJ6_numberOfTrailingZeros_0f7a4, 2, (some .int)),
  (yJ9_abs_0f7a4, cJ9_abs_0f7a4, 1, (some .int)),
  (yJ9_max_7cf53, cJ9_max_7cf53, 2, (some .int)),
  (yJ9_min_7cf53, cJ9_min_7cf53, 2, (some .int)),
  (yL_below, cL_below, 2, (some .int)),
  (yL_cell, cL_cell, 2, (some .int)),
  (yL_nibbles, cL_nibbles, 2, (some .long)),
  (yL_law, cL_law, 13, (some .boolean))]
def pA : List FieldType := [.int, .long, .int, .array .int, .object RX5, .object RX7]
def pL : List (String × String × String × Nat) := [(RX1, "LINE_SETS", "[I", 1), (RX6, "ZONE_SECTORS", "[I", 2), (RX6, "ZONE_FIRSTS", "[I", 3), (RX4, "WORDS", "[I", 4)]
def pH : Nat → List (Nat × Nat × Nat × Nat) := fun _ => []
def pK : Nat → State → Heap → Prop := fun _ _ _ => True
def pP : mi_P := (pC, pT, pN, fun k => pM.getD k (⟨"", "", ""⟩, ⟨#[]⟩, 0, none), pA, 6, pL, pH, pK)
theorem pP_ok : mi_ok pP := ⟨fun _ h => good_of_word (List.mem_filter.mp h).2, pN_ok, fun _ _ _ _ _ h => h, fun _ _ _ _ _ h => h⟩
abbrev kX8_init : Nat := 0
abbrev kX8_session : Nat := 1
abbrev kX8_track : Nat := 2
abbrev kX8_write : Nat := 3
abbrev kX8_starve : Nat := 4
abbrev kX8_close : Nat := 5
abbrev kX8_scratch : Nat := 6
abbrev kX8_rot : Nat := 7
abbrev kX8_read : Nat := 8
abbrev kX8_clock : Nat := 9
abbrev kX8_ofSector : Nat := 10
abbrev kX8_nibbles : Nat := 11
abbrev kX8_ofTrack : Nat := 12
abbrev kX8_ofFile : Nat := 13
abbrev kX8_many : Nat := 14
abbrev kX8_wouldTake : Nat := 15
abbrev kX8_wouldMend : Nat := 16
abbrev kX8_digest : Nat := 17
abbrev kX8_digestTracks : Nat := 18
abbrev kX8_digestSectors : Nat := 19
abbrev kX8_digestFiles : Nat := 20
abbrev kX8_isSector : Nat := 21
abbrev kX8_checkSector : Nat := 22
abbrev kX8_checkFile : Nat := 23
abbrev kX8_trackAt : Nat := 24
abbrev kX8_left : Nat := 25
abbrev kX8_trackOf : Nat := 26
abbrev kX8_isGood : Nat := 27
abbrev kX8_goodFrom : Nat := 28
abbrev kX8_writtenOf : Nat := 29
abbrev kX0_init : Nat := 30
abbrev kX1_init : Nat := 31
abbrev kX1_valueAt : Nat := 32
abbrev kX1_isErased : Nat := 33
abbrev kX1_put : Nat := 34
abbrev kX1_erase : Nat := 35
abbrev kX1_copyFrom : Nat := 36
abbrev kX1_spread : Nat := 37
abbrev kX1_gathered : Nat := 38
abbrev kX1_mend : Nat := 39
abbrev kX1_isEven : Nat := 40
abbrev kX1_fillErased : Nat := 41
abbrev kX1_onlyOddOf : Nat := 42
abbrev kX1_parityOf : Nat := 43
abbrev kX1_placeOf : Nat := 44
abbrev kX2_init : Nat := 45
abbrev kX2_seekTime : Nat := 46
abbrev kX2_restOfTurn : Nat := 47
abbrev kX2_clockBehind : Nat := 48
abbrev kX2_headBehind : Nat := 49
abbrev kX2_passOver : Nat := 50
abbrev kX2_timeOver : Nat := 51
abbrev kX3_init : Nat := 52
abbrev kX3_tellerOf : Nat := 53
abbrev kX3_firstOf : Nat := 54
abbrev kX3_lengthOf : Nat := 55
abbrev kX4_init : Nat := 56
abbrev kX4_mark : Nat := 57
abbrev kX4_isJoined : Nat := 58
abbrev kX4_dsvBehind : Nat := 59
abbrev kX4_putBits : Nat := 60
abbrev kX5_init : Nat := 61
abbrev kX5_fillWith : Nat := 62
abbrev kX5_eraseColumn : Nat := 63
abbrev kX5_makeWrong : Nat := 64
abbrev kX5_raw : Nat := 65
abbrev kX5_stateWithout : Nat := 66
abbrev kX5_reckon : Nat := 67
abbrev kX5_judged : Nat := 68
abbrev kX5_mixed : Nat := 69
abbrev kX5_sumOf : Nat := 70
abbrev kX5_nibbleOf : Nat := 71
abbrev kX6_zoneOf : Nat := 72
abbrev kX6_turnOf : Nat := 73
abbrev kX6_angleOf : Nat := 74
abbrev kX6_speedOf : Nat := 75
abbrev kX6_positionOf : Nat := 76
abbrev kX7_init : Nat := 77
abbrev kX7_reserve : Nat := 78
abbrev kX7_behind : Nat := 79
abbrev kX7_holds : Nat := 80
abbrev kX7_hasRoom : Nat := 81
abbrev kX7_takeNext : Nat := 82
abbrev kX7_giveBack : Nat := 83
abbrev kJ6_bitCount_0f7a4 : Nat := 84
abbrev kJ6_numberOfTrailingZeros_0f7a4 : Nat := 85
abbrev kJ9_abs_0f7a4 : Nat := 86
abbrev kJ9_max_7cf53 : Nat := 87
abbrev kJ9_min_7cf53 : Nat := 88
abbrev kL_below : Nat := 89
abbrev kL_cell : Nat := 90
abbrev kL_nibbles : Nat := 91
abbrev kL_law : Nat := 92
theorem inX8 : ∀ w ∈ u_ws RX8 TX8 10, w ∈ pT := by
  intro w hw
  have h : (u_ws RX8 TX8 10).all (fun w => lw_tbl.contains w && goodWord w) = true := by decide +kernel
  have h2 := List.all_eq_true.mp h w hw
  rw [Bool.and_eq_true] at h2
  exact List.mem_filter.mpr ⟨List.contains_iff_mem.mp h2.1, h2.2⟩
theorem cfX8 : mi_cf pP 0 RX8 TX8 10 tyX8 := ⟨rfl, inX8, tyX8_ok, nmX8⟩
theorem inX0 : ∀ w ∈ u_ws RX0 TX0 2, w ∈ pT := by
  intro w hw
  have h : (u_ws RX0 TX0 2).all (fun w => lw_tbl.contains w && goodWord w) = true := by decide +kernel
  have h2 := List.all_eq_true.mp h w hw
  rw [Bool.and_eq_true] at h2
  exact List.mem_filter.mpr ⟨List.contains_iff_mem.mp h2.1, h2.2⟩
theorem cfX0 : mi_cf pP 1 RX0 TX0 2 tyX0 := ⟨rfl, inX0, tyX0_ok, nmX0⟩
theorem inX1 : ∀ w ∈ u_ws RX1 TX1 2, w ∈ pT := by
  intro w hw
  have h : (u_ws RX1 TX1 2).all (fun w => lw_tbl.contains w && goodWord w) = true := by decide +kernel
  have h2 := List.all_eq_true.mp h w hw
  rw [Bool.and_eq_true] at h2
  exact List.mem_filter.mpr ⟨List.contains_iff_mem.mp h2.1, h2.2⟩
theorem cfX1 : mi_cf pP 2 RX1 TX1 2 tyX1 := ⟨rfl, inX1, tyX1_ok, nmX1⟩
theorem inX2 : ∀ w ∈ u_ws RX2 TX2 5, w ∈ pT := by
  intro w hw
  have h : (u_ws RX2 TX2 5).all (fun w => lw_tbl.contains w && goodWord w) = true := by decide +kernel
  have h2 := List.all_eq_true.mp h w hw
  rw [Bool.and_eq_true] at h2
  exact List.mem_filter.mpr ⟨List.contains_iff_mem.mp h2.1, h2.2⟩
theorem cfX2 : mi_cf pP 3 RX2 TX2 5 tyX2 := ⟨rfl, inX2, tyX2_ok, nmX2⟩
theorem inX3 : ∀ w ∈ u_ws RX3 TX3 2, w ∈ pT := by
  intro w hw
  have h : (u_ws RX3 TX3 2).all (fun w => lw_tbl.contains w && goodWord w) = true := by decide +kernel
  have h2 := List.all_eq_true.mp h w hw
  rw [Bool.and_eq_true] at h2
  exact List.mem_filter.mpr ⟨List.contains_iff_mem.mp h2.1, h2.2⟩
theorem cfX3 : mi_cf pP 4 RX3 TX3 2 tyX3 := ⟨rfl, inX3, tyX3_ok, nmX3⟩
theorem inX4 : ∀ w ∈ u_ws RX4 TX4 4, w ∈ pT := by
  intro w hw
  have h : (u_ws RX4 TX4 4).all (fun w => lw_tbl.contains w && goodWord w) = true := by decide +kernel
  have h2 := List.all_eq_true.mp h w hw
  rw [Bool.and_eq_true] at h2
  exact List.mem_filter.mpr ⟨List.contains_iff_mem.mp h2.1, h2.2⟩
theorem cfX4 : mi_cf pP 5 RX4 TX4 4 tyX4 := ⟨rfl, inX4, tyX4_ok, nmX4⟩
theorem inX5 : ∀ w ∈ u_ws RX5 TX5 10, w ∈ pT := by
  intro w hw
  have h : (u_ws RX5 TX5 10).all (fun w => lw_tbl.contains w && goodWord w) = true := by decide +kernel
  have h2 := List.all_eq_true.mp h w hw
  rw [Bool.and_eq_true] at h2
  exact List.mem_filter.mpr ⟨List.contains_iff_mem.mp h2.1, h2.2⟩
theorem cfX5 : mi_cf pP 6 RX5 TX5 10 tyX5 := ⟨rfl, inX5, tyX5_ok, nmX5⟩
theorem inX7 : ∀ w ∈ u_ws RX7 TX7 7, w ∈ pT := by
  intro w hw
  have h : (u_ws RX7 TX7 7).all (fun w => lw_tbl.contains w && goodWord w) = true := by decide +kernel
  have h2 := List.all_eq_true.mp h w hw
  rw [Bool.and_eq_true] at h2
  exact List.mem_filter.mpr ⟨List.contains_iff_mem.mp h2.1, h2.2⟩
theorem cfX7 : mi_cf pP 8 RX7 TX7 7 tyX7 := ⟨rfl, inX7, tyX7_ok, nmX7⟩
theorem fd_RX3_11 : mi_fd pP RX3 11 4 0 true (tyX3 0) := ⟨RX3, TX3, 2, tyX3, cfX3, by decide, rfl, rfl, Or.inl (pT_mem 57 (by decide +kernel) (by decide +kernel)), fun _ => ⟨rfl, pT_mem 57 (by decide +kernel) (by decide +kernel)⟩⟩
theorem fg_RX3_11 : mi_fg pP RX3 11 4 0 := ⟨RX3, TX3, 2, tyX3, cfX3, by decide, Or.inl (pT_mem 57 (by decide +kernel) (by decide +kernel))⟩
theorem fd_RX3_16 : mi_fd pP RX3 16 4 1 true (tyX3 1) := ⟨RX3, TX3, 2, tyX3, cfX3, by decide, rfl, rfl, Or.inl (pT_mem 58 (by decide +kernel) (by decide +kernel)), fun _ => ⟨rfl, pT_mem 58 (by decide +kernel) (by decide +kernel)⟩⟩
theorem fg_RX3_16 : mi_fg pP RX3 16 4 1 := ⟨RX3, TX3, 2, tyX3, cfX3, by decide, Or.inl (pT_mem 58 (by decide +kernel) (by decide +kernel))⟩
theorem fd_RX2_9 : mi_fd pP RX2 9 3 0 false (tyX2 0) := ⟨RX2, TX2, 5, tyX2, cfX2, by decide, rfl, rfl, Or.inl (pT_mem 71 (by decide +kernel) (by decide +kernel)), fun q => by cases q⟩
theorem fg_RX2_9 : mi_fg pP RX2 9 3 0 := ⟨RX2, TX2, 5, tyX2, cfX2, by decide, Or.inl (pT_mem 71 (by decide +kernel) (by decide +kernel))⟩
theorem fd_RX8_199 : mi_fd pP RX8 199 3 0 false (tyX2 0) := ⟨RX2, TX2, 5, tyX2, cfX2, by decide, rfl, rfl, Or.inr ⟨"PitHouse", by decide +kernel⟩, fun q => by cases q⟩
theorem fg_RX8_199 : mi_fg pP RX8 199 3 0 := ⟨RX2, TX2, 5, tyX2, cfX2, by decide, Or.inr ⟨"PitHouse", by decide +kernel⟩⟩
theorem fd_RX2_15 : mi_fd pP RX2 15 3 1 false (tyX2 1) := ⟨RX2, TX2, 5, tyX2, cfX2, by decide, rfl, rfl, Or.inl (pT_mem 73 (by decide +kernel) (by decide +kernel)), fun q => by cases q⟩
theorem fg_RX2_15 : mi_fg pP RX2 15 3 1 := ⟨RX2, TX2, 5, tyX2, cfX2, by decide, Or.inl (pT_mem 73 (by decide +kernel) (by decide +kernel))⟩
theorem fd_RX8_206 : mi_fd pP RX8 206 3 1 false (tyX2 1) := ⟨RX2, TX2, 5, tyX2, cfX2, by decide, rfl, rfl, Or.inr ⟨"PitHouse", by decide +kernel⟩, fun q => by cases q⟩
theorem fg_RX8_206 : mi_fg pP RX8 206 3 1 := ⟨RX2, TX2, 5, tyX2, cfX2, by decide, Or.inr ⟨"PitHouse", by decide +kernel⟩⟩
theorem fd_RX2_19 : mi_fd pP RX2 19 3 2 false (tyX2 2) := ⟨RX2, TX2, 5, tyX2, cfX2, by decide, rfl, rfl, Or.inl (pT_mem 75 (by decide +kernel) (by decide +kernel)), fun q => by cases q⟩
theorem fg_RX2_19 : mi_fg pP RX2 19 3 2 := ⟨RX2, TX2, 5, tyX2, cfX2, by decide, Or.inl (pT_mem 75 (by decide +kernel) (by decide +kernel))⟩
theorem fd_RX8_298 : mi_fd pP RX8 298 3 2 false (tyX2 2) := ⟨RX2, TX2, 5, tyX2, cfX2, by decide, rfl, rfl, Or.inr ⟨"PitHouse", by decide +kernel⟩, fun q => by cases q⟩
theorem fg_RX8_298 : mi_fg pP RX8 298 3 2 := ⟨RX2, TX2, 5, tyX2, cfX2, by decide, Or.inr ⟨"PitHouse", by decide +kernel⟩⟩
theorem fd_RX2_22 : mi_fd pP RX2 22 3 3 false (tyX2 3) := ⟨RX2, TX2, 5, tyX2, cfX2, by decide, rfl, rfl, Or.inl (pT_mem 77 (by decide +kernel) (by decide +kernel)), fun q => by cases q⟩
theorem fg_RX2_22 : mi_fg pP RX2 22 3 3 := ⟨RX2, TX2, 5, tyX2, cfX2, by decide, Or.inl (pT_mem 77 (by decide +kernel) (by decide +kernel))⟩
theorem fd_RX8_182 : mi_fd pP RX8 182 3 3 false (tyX2 3) := ⟨RX2, TX2, 5, tyX2, cfX2, by decide, rfl, rfl, Or.inr ⟨"PitHouse", by decide +kernel⟩, fun q => by cases q⟩
theorem fg_RX8_182 : mi_fg pP RX8 182 3 3 := ⟨RX2, TX2, 5, tyX2, cfX2, by decide, Or.inr ⟨"PitHouse", by decide +kernel⟩⟩
theorem fd_RX2_26 : mi_fd pP RX2 26 3 4 false (tyX2 4) := ⟨RX2, TX2, 5, tyX2, cfX2, by decide, rfl, rfl, Or.inl (pT_mem 79 (by decide +kernel) (by decide +kernel)), fun q => by cases q⟩
theorem fg_RX2_26 : mi_fg pP RX2 26 3 4 := ⟨RX2, TX2, 5, tyX2, cfX2, by decide, Or.inl (pT_mem 79 (by decide +kernel) (by decide +kernel))⟩
theorem fd_RX8_185 : mi_fd pP RX8 185 3 4 false (tyX2 4) := ⟨RX2, TX2, 5, tyX2, cfX2, by decide, rfl, rfl, Or.inr ⟨"PitHouse", by decide +kernel⟩, fun q => by cases q⟩
theorem fg_RX8_185 : mi_fg pP RX8 185 3 4 := ⟨RX2, TX2, 5, tyX2, cfX2, by decide, Or.inr ⟨"PitHouse", by decide +kernel⟩⟩
theorem fd_RX1_9 : mi_fd pP RX1 9 2 0 false (tyX1 0) := ⟨RX1, TX1, 2, tyX1, cfX1, by decide, rfl, rfl, Or.inl (pT_mem 104 (by decide +kernel) (by decide +kernel)), fun q => by cases q⟩
theorem fg_RX1_9 : mi_fg pP RX1 9 2 0 := ⟨RX1, TX1, 2, tyX1, cfX1, by decide, Or.inl (pT_mem 104 (by decide +kernel) (by decide +kernel))⟩
theorem fd_RX1_15 : mi_fd pP RX1 15 2 1 false (tyX1 1) := ⟨RX1, TX1, 2, tyX1, cfX1, by decide, rfl, rfl, Or.inl (pT_mem 105 (by decide +kernel) (by decide +kernel)), fun q => by cases q⟩
theorem fg_RX1_15 : mi_fg pP RX1 15 2 1 := ⟨RX1, TX1, 2, tyX1, cfX1, by decide, Or.inl (pT_mem 105 (by decide +kernel) (by decide +kernel))⟩
theorem fd_RX5_118 : mi_fd pP RX5 118 2 1 false (tyX1 1) := ⟨RX1, TX1, 2, tyX1, cfX1, by decide, rfl, rfl, Or.inr ⟨"PitHouse", by decide +kernel⟩, fun q => by cases q⟩
theorem fg_RX5_118 : mi_fg pP RX5 118 2 1 := ⟨RX1, TX1, 2, tyX1, cfX1, by decide, Or.inr ⟨"PitHouse", by decide +kernel⟩⟩
theorem fd_RX8_214 : mi_fd pP RX8 214 2 1 false (tyX1 1) := ⟨RX1, TX1, 2, tyX1, cfX1, by decide, rfl, rfl, Or.inr ⟨"PitHouse", by decide +kernel⟩, fun q => by cases q⟩
theorem fg_RX8_214 : mi_fg pP RX8 214 2 1 := ⟨RX1, TX1, 2, tyX1, cfX1, by decide, Or.inr ⟨"PitHouse", by decide +kernel⟩⟩
theorem fd_RX4_7 : mi_fd pP RX4 7 5 0 false (tyX4 0) := ⟨RX4, TX4, 4, tyX4, cfX4, by decide, rfl, rfl, Or.inl (pT_mem 119 (by decide +kernel) (by decide +kernel)), fun q => by cases q⟩
theorem fg_RX4_7 : mi_fg pP RX4 7 5 0 := ⟨RX4, TX4, 4, tyX4, cfX4, by decide, Or.inl (pT_mem 119 (by decide +kernel) (by decide +kernel))⟩
theorem fd_RX4_13 : mi_fd pP RX4 13 5 1 false (tyX4 1) := ⟨RX4, TX4, 4, tyX4, cfX4, by decide, rfl, rfl, Or.inl (pT_mem 120 (by decide +kernel) (by decide +kernel)), fun q => by cases q⟩
theorem fg_RX4_13 : mi_fg pP RX4 13 5 1 := ⟨RX4, TX4, 4, tyX4, cfX4, by decide, Or.inl (pT_mem 120 (by decide +kernel) (by decide +kernel))⟩
theorem fd_RX5_116 : mi_fd pP RX5 116 5 1 false (tyX4 1) := ⟨RX4, TX4, 4, tyX4, cfX4, by decide, rfl, rfl, Or.inr ⟨"PitHouse", by decide +kernel⟩, fun q => by cases q⟩
theorem fg_RX5_116 : mi_fg pP RX5 116 5 1 := ⟨RX4, TX4, 4, tyX4, cfX4, by decide, Or.inr ⟨"PitHouse", by decide +kernel⟩⟩
theorem fd_RX4_16 : mi_fd pP RX4 16 5 2 false (tyX4 2) := ⟨RX4, TX4, 4, tyX4, cfX4, by decide, rfl, rfl, Or.inl (pT_mem 122 (by decide +kernel) (by decide +kernel)), fun q => by cases q⟩
theorem fg_RX4_16 : mi_fg pP RX4 16 5 2 := ⟨RX4, TX4, 4, tyX4, cfX4, by decide, Or.inl (pT_mem 122 (by decide +kernel) (by decide +kernel))⟩
theorem fd_RX5_115 : mi_fd pP RX5 115 5 2 false (tyX4 2) := ⟨RX4, TX4, 4, tyX4, cfX4, by decide, rfl, rfl, Or.inr ⟨"PitHouse", by decide +kernel⟩, fun q => by cases q⟩
theorem fg_RX5_115 : mi_fg pP RX5 115 5 2 := ⟨RX4, TX4, 4, tyX4, cfX4, by decide, Or.inr ⟨"PitHouse", by decide +kernel⟩⟩
theorem fd_RX4_19 : mi_fd pP RX4 19 5 3 false (tyX4 3) := ⟨RX4, TX4, 4, tyX4, cfX4, by decide, rfl, rfl, Or.inl (pT_mem 124 (by decide +kernel) (by decide +kernel)), fun q => by cases q⟩
theorem fg_RX4_19 : mi_fg pP RX4 19 5 3 := ⟨RX4, TX4, 4, tyX4, cfX4, by decide, Or.inl (pT_mem 124 (by decide +kernel) (by decide +kernel))⟩
theorem fd_RX5_117 : mi_fd pP RX5 117 5 3 false (tyX4 3) := ⟨RX4, TX4, 4, tyX4, cfX4, by decide, rfl, rfl, Or.inr ⟨"PitHouse", by decide +kernel⟩, fun q => by cases q⟩
theorem fg_RX5_117 : mi_fg pP RX5 117 5 3 := ⟨RX4, TX4, 4, tyX4, cfX4, by decide, Or.inr ⟨"PitHouse", by decide +kernel⟩⟩
theorem fd_RX0_10 : mi_fd pP RX0 10 1 0 true (tyX0 0) := ⟨RX0, TX0, 2, tyX0, cfX0, by decide, rfl, rfl, Or.inl (pT_mem 135 (by decide +kernel) (by decide +kernel)), fun _ => ⟨rfl, pT_mem 135 (by decide +kernel) (by decide +kernel)⟩⟩
theorem fg_RX0_10 : mi_fg pP RX0 10 1 0 := ⟨RX0, TX0, 2, tyX0, cfX0, by decide, Or.inl (pT_mem 135 (by decide +kernel) (by decide +kernel))⟩
theorem fg_RX5_101 : mi_fg pP RX5 101 1 0 := ⟨RX0, TX0, 2, tyX0, cfX0, by decide, Or.inr ⟨"PitHouse", by decide +kernel⟩⟩
theorem fg_RX8_316 : mi_fg pP RX8 316 1 0 := ⟨RX0, TX0, 2, tyX0, cfX0, by decide, Or.inr ⟨"PitHouse", by decide +kernel⟩⟩
theorem fd_RX0_19 : mi_fd pP RX0 19 1 1 true (tyX0 1) := ⟨RX0, TX0, 2, tyX0, cfX0, by decide, rfl, rfl, Or.inl (pT_mem 138 (by decide +kernel) (by decide +kernel)), fun _ => ⟨rfl, pT_mem 138 (by decide +kernel) (by decide +kernel)⟩⟩
theorem fg_RX0_19 : mi_fg pP RX0 19 1 1 := ⟨RX0, TX0, 2, tyX0, cfX0, by decide, Or.inl (pT_mem 138 (by decide +kernel) (by decide +kernel))⟩
theorem fg_RX5_106 : mi_fg pP RX5 106 1 1 := ⟨RX0, TX0, 2, tyX0, cfX0, by decide, Or.inr ⟨"PitHouse", by decide +kernel⟩⟩
theorem fd_RX5_47 : mi_fd pP RX5 47 6 0 true (tyX5 0) := ⟨RX5, TX5, 10, tyX5, cfX5, by decide, rfl, rfl, Or.inl (pT_mem 153 (by decide +kernel) (by decide +kernel)), fun _ => ⟨rfl, pT_mem 153 (by decide +kernel) (by decide +kernel)⟩⟩
theorem fg_RX5_47 : mi_fg pP RX5 47 6 0 := ⟨RX5, TX5, 10, tyX5, cfX5, by decide, Or.inl (pT_mem 153 (by decide +kernel) (by decide +kernel))⟩
theorem fd_RX5_12 : mi_fd pP RX5 12 6 1 true (tyX5 1) := ⟨RX5, TX5, 10, tyX5, cfX5, by decide, rfl, rfl, Or.inl (pT_mem 154 (by decide +kernel) (by decide +kernel)), fun _ => ⟨rfl, pT_mem 154 (by decide +kernel) (by decide +kernel)⟩⟩
theorem fg_RX5_12 : mi_fg pP RX5 12 6 1 := ⟨RX5, TX5, 10, tyX5, cfX5, by decide, Or.inl (pT_mem 154 (by decide +kernel) (by decide +kernel))⟩
theorem fg_RX8_210 : mi_fg pP RX8 210 6 1 := ⟨RX5, TX5, 10, tyX5, cfX5, by decide, Or.inr ⟨"PitHouse", by decide +kernel⟩⟩
theorem fd_RX5_18 : mi_fd pP RX5 18 6 2 false (tyX5 2) := ⟨RX5, TX5, 10, tyX5, cfX5, by decide, rfl, rfl, Or.inl (pT_mem 156 (by decide +kernel) (by decide +kernel)), fun q => by cases q⟩
theorem fg_RX5_18 : mi_fg pP RX5 18 6 2 := ⟨RX5, TX5, 10, tyX5, cfX5, by decide, Or.inl (pT_mem 156 (by decide +kernel) (by decide +kernel))⟩
theorem fd_RX8_169 : mi_fd pP RX8 169 6 2 false (tyX5 2) := ⟨RX5, TX5, 10, tyX5, cfX5, by decide, rfl, rfl, Or.inr ⟨"PitHouse", by decide +kernel⟩, fun q => by cases q⟩
theorem fg_RX8_169 : mi_fg pP RX8 169 6 2 := ⟨RX5, TX5, 10, tyX5, cfX5, by decide, Or.inr ⟨"PitHouse", by decide +kernel⟩⟩
theorem fd_RX5_22 : mi_fd pP RX5 22 6 3 false (tyX5 3) := ⟨RX5, TX5, 10, tyX5, cfX5, by decide, rfl, rfl, Or.inl (pT_mem 158 (by decide +kernel) (by decide +kernel)), fun q => by cases q⟩
theorem fg_RX5_22 : mi_fg pP RX5 22 6 3 := ⟨RX5, TX5, 10, tyX5, cfX5, by decide, Or.inl (pT_mem 158 (by decide +kernel) (by decide +kernel))⟩
theorem fd_RX5_25 : mi_fd pP RX5 25 6 4 false (tyX5 4) := ⟨RX5, TX5, 10, tyX5, cfX5, by decide, rfl, rfl, Or.inl (pT_mem 159 (by decide +kernel) (by decide +kernel)), fun q => by cases q⟩
theorem fg_RX5_25 : mi_fg pP RX5 25 6 4 := ⟨RX5, TX5, 10, tyX5, cfX5, by decide, Or.inl (pT_mem 159 (by decide +kernel) (by decide +kernel))⟩
theorem fd_RX5_29 : mi_fd pP RX5 29 6 5 false (tyX5 5) := ⟨RX5, TX5, 10, tyX5, cfX5, by decide, rfl, rfl, Or.inl (pT_mem 160 (by decide +kernel) (by decide +kernel)), fun q => by cases q⟩
theorem fg_RX5_29 : mi_fg pP RX5 29 6 5 := ⟨RX5, TX5, 10, tyX5, cfX5, by decide, Or.inl (pT_mem 160 (by decide +kernel) (by decide +kernel))⟩
theorem fd_RX8_196 : mi_fd pP RX8 196 6 5 false (tyX5 5) := ⟨RX5, TX5, 10, tyX5, cfX5, by decide, rfl, rfl, Or.inr ⟨"PitHouse", by decide +kernel⟩, fun q => by cases q⟩
theorem fg_RX8_196 : mi_fg pP RX8 196 6 5 := ⟨RX5, TX5, 10, tyX5, cfX5, by decide, Or.inr ⟨"PitHouse", by decide +kernel⟩⟩
theorem fd_RX5_34 : mi_fd pP RX5 34 6 6 false (tyX5 6) := ⟨RX5, TX5, 10, tyX5, cfX5, by decide, rfl, rfl, Or.inl (pT_mem 162 (by decide +kernel) (by decide +kernel)), fun q => by cases q⟩
theorem fg_RX5_34 : mi_fg pP RX5 34 6 6 := ⟨RX5, TX5, 10, tyX5, cfX5, by decide, Or.inl (pT_mem 162 (by decide +kernel) (by decide +kernel))⟩
theorem fd_RX8_238 : mi_fd pP RX8 238 6 6 false (tyX5 6) := ⟨RX5, TX5, 10, tyX5, cfX5, by decide, rfl, rfl, Or.inr ⟨"PitHouse", by decide +kernel⟩, fun q => by cases q⟩
theorem fg_RX8_238 : mi_fg pP RX8 238 6 6 := ⟨RX5, TX5, 10, tyX5, cfX5, by decide, Or.inr ⟨"PitHouse", by decide +kernel⟩⟩
theorem fd_RX5_38 : mi_fd pP RX5 38 6 7 false (tyX5 7) := ⟨RX5, TX5, 10, tyX5, cfX5, by decide, rfl, rfl, Or.inl (pT_mem 164 (by decide +kernel) (by decide +kernel)), fun q => by cases q⟩
theorem fg_RX5_38 : mi_fg pP RX5 38 6 7 := ⟨RX5, TX5, 10, tyX5, cfX5, by decide, Or.inl (pT_mem 164 (by decide +kernel) (by decide +kernel))⟩
theorem fd_RX8_224 : mi_fd pP RX8 224 6 7 false (tyX5 7) := ⟨RX5, TX5, 10, tyX5, cfX5, by decide, rfl, rfl, Or.inr ⟨"PitHouse", by decide +kernel⟩, fun q => by cases q⟩
theorem fg_RX8_224 : mi_fg pP RX8 224 6 7 := ⟨RX5, TX5, 10, tyX5, cfX5, by decide, Or.inr ⟨"PitHouse", by decide +kernel⟩⟩
theorem fd_RX5_41 : mi_fd pP RX5 41 6 8 false (tyX5 8) := ⟨RX5, TX5, 10, tyX5, cfX5, by decide, rfl, rfl, Or.inl (pT_mem 166 (by decide +kernel) (by decide +kernel)), fun q => by cases q⟩
theorem fg_RX5_41 : mi_fg pP RX5 41 6 8 := ⟨RX5, TX5, 10, tyX5, cfX5, by decide, Or.inl (pT_mem 166 (by decide +kernel) (by decide +kernel))⟩
theorem fd_RX8_227 : mi_fd pP RX8 227 6 8 false (tyX5 8) := ⟨RX5, TX5, 10, tyX5, cfX5, by decide, rfl, rfl, Or.inr ⟨"PitHouse", by decide +kernel⟩, fun q => by cases q⟩
theorem fg_RX8_227 : mi_fg pP RX8 227 6 8 := ⟨RX5, TX5, 10, tyX5, cfX5, by decide, Or.inr ⟨"PitHouse", by decide +kernel⟩⟩
theorem fd_RX5_44 : mi_fd pP RX5 44 6 9 false (tyX5 9) := ⟨RX5, TX5, 10, tyX5, cfX5, by decide, rfl, rfl, Or.inl (pT_mem 168 (by decide +kernel) (by decide +kernel)), fun q => by cases q⟩
theorem fg_RX5_44 : mi_fg pP RX5 44 6 9 := ⟨RX5, TX5, 10, tyX5, cfX5, by decide, Or.inl (pT_mem 168 (by decide +kernel) (by decide +kernel))⟩
theorem fd_RX8_230 : mi_fd pP RX8 230 6 9 false (tyX5 9) := ⟨RX5, TX5, 10, tyX5, cfX5, by decide, rfl, rfl, Or.inr ⟨"PitHouse", by decide +kernel⟩, fun q => by cases q⟩
theorem fg_RX8_230 : mi_fg pP RX8 230 6 9 := ⟨RX5, TX5, 10, tyX5, cfX5, by decide, Or.inr ⟨"PitHouse", by decide +kernel⟩⟩
theorem fd_RX7_9 : mi_fd pP RX7 9 8 0 false (tyX7 0) := ⟨RX7, TX7, 7, tyX7, cfX7, by decide, rfl, rfl, Or.inl (pT_mem 196 (by decide +kernel) (by decide +kernel)), fun q => by cases q⟩
theorem fg_RX7_9 : mi_fg pP RX7 9 8 0 := ⟨RX7, TX7, 7, tyX7, cfX7, by decide, Or.inl (pT_mem 196 (by decide +kernel) (by decide +kernel))⟩
theorem fd_RX8_257 : mi_fd pP RX8 257 8 0 false (tyX7 0) := ⟨RX7, TX7, 7, tyX7, cfX7, by decide, rfl, rfl, Or.inr ⟨"PitHouse", by decide +kernel⟩, fun q => by cases q⟩
theorem fg_RX8_257 : mi_fg pP RX8 257 8 0 := ⟨RX7, TX7, 7, tyX7, cfX7, by decide, Or.inr ⟨"PitHouse", by decide +kernel⟩⟩
theorem fd_RX7_15 : mi_fd pP RX7 15 8 1 false (tyX7 1) := ⟨RX7, TX7, 7, tyX7, cfX7, by decide, rfl, rfl, Or.inl (pT_mem 198 (by decide +kernel) (by decide +kernel)), fun q => by cases q⟩
theorem fg_RX7_15 : mi_fg pP RX7 15 8 1 := ⟨RX7, TX7, 7, tyX7, cfX7, by decide, Or.inl (pT_mem 198 (by decide +kernel) (by decide +kernel))⟩
theorem fd_RX8_108 : mi_fd pP RX8 108 8 1 false (tyX7 1) := ⟨RX7, TX7, 7, tyX7, cfX7, by decide, rfl, rfl, Or.inr ⟨"PitHouse", by decide +kernel⟩, fun q => by cases q⟩
theorem fg_RX8_108 : mi_fg pP RX8 108 8 1 := ⟨RX7, TX7, 7, tyX7, cfX7, by decide, Or.inr ⟨"PitHouse", by decide +kernel⟩⟩
theorem fd_RX7_18 : mi_fd pP RX7 18 8 2 false (tyX7 2) := ⟨RX7, TX7, 7, tyX7, cfX7, by decide, rfl, rfl, Or.inl (pT_mem 200 (by decide +kernel) (by decide +kernel)), fun q => by cases q⟩
theorem fg_RX7_18 : mi_fg pP RX7 18 8 2 := ⟨RX7, TX7, 7, tyX7, cfX7, by decide, Or.inl (pT_mem 200 (by decide +kernel) (by decide +kernel))⟩
theorem fd_RX8_88 : mi_fd pP RX8 88 8 2 false (tyX7 2) := ⟨RX7, TX7, 7, tyX7, cfX7, by decide, rfl, rfl, Or.inr ⟨"PitHouse", by decide +kernel⟩, fun q => by cases q⟩
theorem fg_RX8_88 : mi_fg pP RX8 88 8 2 := ⟨RX7, TX7, 7, tyX7, cfX7, by decide, Or.inr ⟨"PitHouse", by decide +kernel⟩⟩
theorem fd_RX7_21 : mi_fd pP RX7 21 8 3 false (tyX7 3) := ⟨RX7, TX7, 7, tyX7, cfX7, by decide, rfl, rfl, Or.inl (pT_mem 202 (by decide +kernel) (by decide +kernel)), fun q => by cases q⟩
theorem fg_RX7_21 : mi_fg pP RX7 21 8 3 := ⟨RX7, TX7, 7, tyX7, cfX7, by decide, Or.inl (pT_mem 202 (by decide +kernel) (by decide +kernel))⟩
theorem fd_RX8_260 : mi_fd pP RX8 260 8 3 false (tyX7 3) := ⟨RX7, TX7, 7, tyX7, cfX7, by decide, rfl, rfl, Or.inr ⟨"PitHouse", by decide +kernel⟩, fun q => by cases q⟩
theorem fg_RX8_260 : mi_fg pP RX8 260 8 3 := ⟨RX7, TX7, 7, tyX7, cfX7, by decide, Or.inr ⟨"PitHouse", by decide +kernel⟩⟩
theorem fd_RX7_24 : mi_fd pP RX7 24 8 4 false (tyX7 4) := ⟨RX7, TX7, 7, tyX7, cfX7, by decide, rfl, rfl, Or.inl (pT_mem 204 (by decide +kernel) (by decide +kernel)), fun q => by cases q⟩
theorem fg_RX7_24 : mi_fg pP RX7 24 8 4 := ⟨RX7, TX7, 7, tyX7, cfX7, by decide, Or.inl (pT_mem 204 (by decide +kernel) (by decide +kernel))⟩
theorem fd_RX8_263 : mi_fd pP RX8 263 8 4 false (tyX7 4) := ⟨RX7, TX7, 7, tyX7, cfX7, by decide, rfl, rfl, Or.inr ⟨"PitHouse", by decide +kernel⟩, fun q => by cases q⟩
theorem fg_RX8_263 : mi_fg pP RX8 263 8 4 := ⟨RX7, TX7, 7, tyX7, cfX7, by decide, Or.inr ⟨"PitHouse", by decide +kernel⟩⟩
theorem fd_RX7_27 : mi_fd pP RX7 27 8 5 false (tyX7 5) := ⟨RX7, TX7, 7, tyX7, cfX7, by decide, rfl, rfl, Or.inl (pT_mem 206 (by decide +kernel) (by decide +kernel)), fun q => by cases q⟩
theorem fg_RX7_27 : mi_fg pP RX7 27 8 5 := ⟨RX7, TX7, 7, tyX7, cfX7, by decide, Or.inl (pT_mem 206 (by decide +kernel) (by decide +kernel))⟩
theorem fd_RX8_117 : mi_fd pP RX8 117 8 5 false (tyX7 5) := ⟨RX7, TX7, 7, tyX7, cfX7, by decide, rfl, rfl, Or.inr ⟨"PitHouse", by decide +kernel⟩, fun q => by cases q⟩
theorem fg_RX8_117 : mi_fg pP RX8 117 8 5 := ⟨RX7, TX7, 7, tyX7, cfX7, by decide, Or.inr ⟨"PitHouse", by decide +kernel⟩⟩
theorem fd_RX7_30 : mi_fd pP RX7 30 8 6 false (tyX7 6) := ⟨RX7, TX7, 7, tyX7, cfX7, by decide, rfl, rfl, Or.inl (pT_mem 208 (by decide +kernel) (by decide +kernel)), fun q => by cases q⟩
theorem fg_RX7_30 : mi_fg pP RX7 30 8 6 := ⟨RX7, TX7, 7, tyX7, cfX7, by decide, Or.inl (pT_mem 208 (by decide +kernel) (by decide +kernel))⟩
theorem fd_RX8_120 : mi_fd pP RX8 120 8 6 false (tyX7 6) := ⟨RX7, TX7, 7, tyX7, cfX7, by decide, rfl, rfl, Or.inr ⟨"PitHouse", by decide +kernel⟩, fun q => by cases q⟩
theorem fg_RX8_120 : mi_fg pP RX8 120 8 6 := ⟨RX7, TX7, 7, tyX7, cfX7, by decide, Or.inr ⟨"PitHouse", by decide +kernel⟩⟩
theorem fd_RX8_11 : mi_fd pP RX8 11 0 0 true (tyX8 0) := ⟨RX8, TX8, 10, tyX8, cfX8, by decide, rfl, rfl, Or.inl (pT_mem 225 (by decide +kernel) (by decide +kernel)), fun _ => ⟨rfl, pT_mem 225 (by decide +kernel) (by decide +kernel)⟩⟩
theorem fg_RX8_11 : mi_fg pP RX8 11 0 0 := ⟨RX8, TX8, 10, tyX8, cfX8, by decide, Or.inl (pT_mem 225 (by decide +kernel) (by decide +kernel))⟩
theorem fd_RX8_17 : mi_fd pP RX8 17 0 1 true (tyX8 1) := ⟨RX8, TX8, 10, tyX8, cfX8, by decide, rfl, rfl, Or.inl (pT_mem 226 (by decide +kernel) (by decide +kernel)), fun _ => ⟨rfl, pT_mem 226 (by decide +kernel) (by decide +kernel)⟩⟩
theorem fg_RX8_17 : mi_fg pP RX8 17 0 1 := ⟨RX8, TX8, 10, tyX8, cfX8, by decide, Or.inl (pT_mem 226 (by decide +kernel) (by decide +kernel))⟩
theorem fd_RX8_24 : mi_fd pP RX8 24 0 2 true (tyX8 2) := ⟨RX8, TX8, 10, tyX8, cfX8, by decide, rfl, rfl, Or.inl (pT_mem 227 (by decide +kernel) (by decide +kernel)), fun _ => ⟨rfl, pT_mem 227 (by decide +kernel) (by decide +kernel)⟩⟩
theorem fg_RX8_24 : mi_fg pP RX8 24 0 2 := ⟨RX8, TX8, 10, tyX8, cfX8, by decide, Or.inl (pT_mem 227 (by decide +kernel) (by decide +kernel))⟩
theorem fd_RX8_31 : mi_fd pP RX8 31 0 3 true (tyX8 3) := ⟨RX8, TX8, 10, tyX8, cfX8, by decide, rfl, rfl, Or.inl (pT_mem 228 (by decide +kernel) (by decide +kernel)), fun _ => ⟨rfl, pT_mem 228 (by decide +kernel) (by decide +kernel)⟩⟩
theorem fg_RX8_31 : mi_fg pP RX8 31 0 3 := ⟨RX8, TX8, 10, tyX8, cfX8, by decide, Or.inl (pT_mem 228 (by decide +kernel) (by decide +kernel))⟩
theorem fd_RX8_38 : mi_fd pP RX8 38 0 4 true (tyX8 4) := ⟨RX8, TX8, 10, tyX8, cfX8, by decide, rfl, rfl, Or.inl (pT_mem 229 (by decide +kernel) (by decide +kernel)), fun _ => ⟨rfl, pT_mem 229 (by decide +kernel) (by decide +kernel)⟩⟩
theorem fg_RX8_38 : mi_fg pP RX8 38 0 4 := ⟨RX8, TX8, 10, tyX8, cfX8, by decide, Or.inl (pT_mem 229 (by decide +kernel) (by decide +kernel))⟩
theorem fd_RX8_42 : mi_fd pP RX8 42 0 5 false (tyX8 5) := ⟨RX8, TX8, 10, tyX8, cfX8, by decide, rfl, rfl, Or.inl (pT_mem 230 (by decide +kernel) (by decide +kernel)), fun q => by cases q⟩
theorem fg_RX8_42 : mi_fg pP RX8 42 0 5 := ⟨RX8, TX8, 10, tyX8, cfX8, by decide, Or.inl (pT_mem 230 (by decide +kernel) (by decide +kernel))⟩
theorem fd_RX8_46 : mi_fd pP RX8 46 0 6 false (tyX8 6) := ⟨RX8, TX8, 10, tyX8, cfX8, by decide, rfl, rfl, Or.inl (pT_mem 231 (by decide +kernel) (by decide +kernel)), fun q => by cases q⟩
theorem fg_RX8_46 : mi_fg pP RX8 46 0 6 := ⟨RX8, TX8, 10, tyX8, cfX8, by decide, Or.inl (pT_mem 231 (by decide +kernel) (by decide +kernel))⟩
theorem fd_RX8_49 : mi_fd pP RX8 49 0 7 false (tyX8 7) := ⟨RX8, TX8, 10, tyX8, cfX8, by decide, rfl, rfl, Or.inl (pT_mem 232 (by decide +kernel) (by decide +kernel)), fun q => by cases q⟩
theorem fg_RX8_49 : mi_fg pP RX8 49 0 7 := ⟨RX8, TX8, 10, tyX8, cfX8, by decide, Or.inl (pT_mem 232 (by decide +kernel) (by decide +kernel))⟩
theorem fd_RX8_52 : mi_fd pP RX8 52 0 8 false (tyX8 8) := ⟨RX8, TX8, 10, tyX8, cfX8, by decide, rfl, rfl, Or.inl (pT_mem 233 (by decide +kernel) (by decide +kernel)), fun q => by cases q⟩
theorem fg_RX8_52 : mi_fg pP RX8 52 0 8 := ⟨RX8, TX8, 10, tyX8, cfX8, by decide, Or.inl (pT_mem 233 (by decide +kernel) (by decide +kernel))⟩
theorem fd_RX8_55 : mi_fd pP RX8 55 0 9 false (tyX8 9) := ⟨RX8, TX8, 10, tyX8, cfX8, by decide, rfl, rfl, Or.inl (pT_mem 234 (by decide +kernel) (by decide +kernel)), fun q => by cases q⟩
theorem fg_RX8_55 : mi_fg pP RX8 55 0 9 := ⟨RX8, TX8, 10, tyX8, cfX8, by decide, Or.inl (pT_mem 234 (by decide +kernel) (by decide +kernel))⟩
theorem sl_RX1_47 : Jvm.Cond.fieldLink RX1 47 RX1 "LINE_SETS" "[I" ∈ pP.2.1 := pT_mem 447 (by decide +kernel) (by decide +kernel)
theorem sl_RX4_24 : Jvm.Cond.fieldLink RX4 24 RX4 "WORDS" "[I" ∈ pP.2.1 := pT_mem 479 (by decide +kernel) (by decide +kernel)
theorem sl_RX6_7 : Jvm.Cond.fieldLink RX6 7 RX6 "ZONE_FIRSTS" "[I" ∈ pP.2.1 := pT_mem 526 (by decide +kernel) (by decide +kernel)
theorem sl_RX6_17 : Jvm.Cond.fieldLink RX6 17 RX6 "ZONE_SECTORS" "[I" ∈ pP.2.1 := pT_mem 528 (by decide +kernel) (by decide +kernel)
theorem cwX8_init (own : String) (idx : Nat) : mi_cw pP own idx kX8_init 0 := ⟨⟨pT_mem 41 (by decide +kernel) (by decide +kernel), pT_mem 20 (by decide +kernel) (by decide +kernel), by decide⟩, by decide, by decide, by decide +kernel⟩
theorem cwX8_session (own : String) (idx : Nat) : mi_cw pP own idx kX8_session 0 := ⟨⟨pT_mem 259 (by decide +kernel) (by decide +kernel), pT_mem 20 (by decide +kernel) (by decide +kernel), by decide⟩, by decide, by decide, by decide +kernel⟩
theorem cwX8_track (own : String) (idx : Nat) : mi_cw pP own idx kX8_track 2 := ⟨⟨pT_mem 335 (by decide +kernel) (by decide +kernel), pT_mem 20 (by decide +kernel) (by decide +kernel), by decide⟩, by decide, by decide, by decide +kernel⟩
theorem cwX8_write (own : String) (idx : Nat) : mi_cw pP own idx kX8_write 2 := ⟨⟨pT_mem 364 (by decide +kernel) (by decide +kernel), pT_mem 20 (by decide +kernel) (by decide +kernel), by decide⟩, by decide, by decide, by decide +kernel⟩
theorem cwX8_starve (own : String) (idx : Nat) : mi_cw pP own idx kX8_starve 1 := ⟨⟨pT_mem 503 (by decide +kernel) (by decide +kernel), pT_mem 20 (by decide +kernel) (by decide +kernel), by decide⟩, by decide, by decide, by decide +kernel⟩
theorem cwX8_close (own : String) (idx : Nat) : mi_cw pP own idx kX8_close 1 := ⟨⟨pT_mem 508 (by decide +kernel) (by decide +kernel), pT_mem 20 (by decide +kernel) (by decide +kernel), by decide⟩, by decide, by decide, by decide +kernel⟩
theorem cwX8_scratch (own : String) (idx : Nat) : mi_cw pP own idx kX8_scratch 4 := ⟨⟨pT_mem 517 (by decide +kernel) (by decide +kernel), pT_mem 20 (by decide +kernel) (by decide +kernel), by decide⟩, by decide, by decide, by decide +kernel⟩
theorem cwX8_rot (own : String) (idx : Nat) : mi_cw pP own idx kX8_rot 1 := ⟨⟨pT_mem 549 (by decide +kernel) (by decide +kernel), pT_mem 20 (by decide +kernel) (by decide +kernel), by decide⟩, by decide, by decide, by decide +kernel⟩
theorem cwX8_read (own : String) (idx : Nat) : mi_cw pP own idx kX8_read 1 := ⟨⟨pT_mem 561 (by decide +kernel) (by decide +kernel), pT_mem 20 (by decide +kernel) (by decide +kernel), by decide⟩, by decide, by decide, by decide +kernel⟩
theorem cwX8_clock (own : String) (idx : Nat) : mi_cw pP own idx kX8_clock 0 := ⟨⟨pT_mem 605 (by decide +kernel) (by decide +kernel), pT_mem 20 (by decide +kernel) (by decide +kernel), by decide⟩, by decide, by decide, by decide +kernel⟩
theorem cwX8_ofSector (own : String) (idx : Nat) : mi_cw pP own idx kX8_ofSector 2 := ⟨⟨pT_mem 609 (by decide +kernel) (by decide +kernel), pT_mem 20 (by decide +kernel) (by decide +kernel), by decide⟩, by decide, by decide, by decide +kernel⟩
theorem cwX8_nibbles (own : String) (idx : Nat) : mi_cw pP own idx kX8_nibbles 2 := ⟨⟨pT_mem 627 (by decide +kernel) (by decide +kernel), pT_mem 20 (by decide +kernel) (by decide +kernel), by decide⟩, by decide, by decide, by decide +kernel⟩
theorem cwX8_ofTrack (own : String) (idx : Nat) : mi_cw pP own idx kX8_ofTrack 2 := ⟨⟨pT_mem 635 (by decide +kernel) (by decide +kernel), pT_mem 20 (by decide +kernel) (by decide +kernel), by decide⟩, by decide, by decide, by decide +kernel⟩
theorem cwX8_ofFile (own : String) (idx : Nat) : mi_cw pP own idx kX8_ofFile 3 := ⟨⟨pT_mem 699 (by decide +kernel) (by decide +kernel), pT_mem 20 (by decide +kernel) (by decide +kernel), by decide⟩, by decide, by decide, by decide +kernel⟩
theorem cwX8_many (own : String) (idx : Nat) : mi_cw pP own idx kX8_many 1 := ⟨⟨pT_mem 648 (by decide +kernel) (by decide +kernel), pT_mem 20 (by decide +kernel) (by decide +kernel), by decide⟩, by decide, by decide, by decide +kernel⟩
theorem cwX8_wouldTake (own : String) (idx : Nat) : mi_cw pP own idx kX8_wouldTake 2 := ⟨⟨pT_mem 657 (by decide +kernel) (by decide +kernel), pT_mem 20 (by decide +kernel) (by decide +kernel), by decide⟩, by decide, by decide, by decide +kernel⟩
theorem cwX8_wouldMend (own : String) (idx : Nat) : mi_cw pP own idx kX8_wouldMend 2 := ⟨⟨pT_mem 667 (by decide +kernel) (by decide +kernel), pT_mem 20 (by decide +kernel) (by decide +kernel), by decide⟩, by decide, by decide, by decide +kernel⟩
theorem cwX8_digest (own : String) (idx : Nat) : mi_cw pP own idx kX8_digest 0 := ⟨⟨pT_mem 677 (by decide +kernel) (by decide +kernel), pT_mem 20 (by decide +kernel) (by decide +kernel), by decide⟩, by decide, by decide, by decide +kernel⟩
theorem cwX8_digestTracks (own : String) (idx : Nat) : mi_cw pP own idx kX8_digestTracks 1 := ⟨⟨pT_mem 684 (by decide +kernel) (by decide +kernel), pT_mem 20 (by decide +kernel) (by decide +kernel), by decide⟩, by decide, by decide, by decide +kernel⟩
theorem cwX8_digestSectors (own : String) (idx : Nat) : mi_cw pP own idx kX8_digestSectors 1 := ⟨⟨pT_mem 689 (by decide +kernel) (by decide +kernel), pT_mem 20 (by decide +kernel) (by decide +kernel), by decide⟩, by decide, by decide, by decide +kernel⟩
theorem cwX8_digestFiles (own : String) (idx : Nat) : mi_cw pP own idx kX8_digestFiles 1 := ⟨⟨pT_mem 695 (by decide +kernel) (by decide +kernel), pT_mem 20 (by decide +kernel) (by decide +kernel), by decide⟩, by decide, by decide, by decide +kernel⟩
theorem cwX8_isSector (own : String) (idx : Nat) : mi_cw pP own idx kX8_isSector 1 := ⟨⟨pT_mem 567 (by decide +kernel) (by decide +kernel), pT_mem 20 (by decide +kernel) (by decide +kernel), by decide⟩, by decide, by decide, by decide +kernel⟩
theorem cwX8_checkSector (own : String) (idx : Nat) : mi_cw pP own idx kX8_checkSector 1 := ⟨⟨pT_mem 564 (by decide +kernel) (by decide +kernel), pT_mem 20 (by decide +kernel) (by decide +kernel), by decide⟩, by decide, by decide, by decide +kernel⟩
theorem cwX8_checkFile (own : String) (idx : Nat) : mi_cw pP own idx kX8_checkFile 1 := ⟨⟨pT_mem 702 (by decide +kernel) (by decide +kernel), pT_mem 20 (by decide +kernel) (by decide +kernel), by decide⟩, by decide, by decide, by decide +kernel⟩
theorem cwX8_trackAt (own : String) (idx : Nat) : mi_cw pP own idx kX8_trackAt 1 := ⟨⟨pT_mem 368 (by decide +kernel) (by decide +kernel), pT_mem 20 (by decide +kernel) (by decide +kernel), by decide⟩, by decide, by decide, by decide +kernel⟩
theorem cwX8_left (own : String) (idx : Nat) : mi_cw pP own idx kX8_left 0 := ⟨⟨pT_mem 263 (by decide +kernel) (by decide +kernel), pT_mem 20 (by decide +kernel) (by decide +kernel), by decide⟩, by decide, by decide, by decide +kernel⟩
theorem cwX8_trackOf (own : String) (idx : Nat) : mi_cw pP own idx kX8_trackOf 1 := ⟨⟨pT_mem 613 (by decide +kernel) (by decide +kernel), pT_mem 20 (by decide +kernel) (by decide +kernel), by decide⟩, by decide, by decide, by decide +kernel⟩
theorem cwX8_isGood (own : String) (idx : Nat) : mi_cw pP own idx kX8_isGood 1 := ⟨⟨pT_mem 643 (by decide +kernel) (by decide +kernel), pT_mem 20 (by decide +kernel) (by decide +kernel), by decide⟩, by decide, by decide, by decide +kernel⟩
theorem cwX8_goodFrom (own : String) (idx : Nat) : mi_cw pP own idx kX8_goodFrom 2 := ⟨⟨pT_mem 639 (by decide +kernel) (by decide +kernel), pT_mem 20 (by decide +kernel) (by decide +kernel), by decide⟩, by decide, by decide, by decide +kernel⟩
theorem cwX8_writtenOf (own : String) (idx : Nat) : mi_cw pP own idx kX8_writtenOf 1 := ⟨⟨pT_mem 652 (by decide +kernel) (by decide +kernel), pT_mem 20 (by decide +kernel) (by decide +kernel), by decide⟩, by decide, by decide, by decide +kernel⟩
theorem cwX0_init (own : String) (idx : Nat) : mi_cw pP own idx kX0_init 0 := ⟨⟨pT_mem 96 (by decide +kernel) (by decide +kernel), pT_mem 23 (by decide +kernel) (by decide +kernel), by decide⟩, by decide, by decide, by decide +kernel⟩
theorem cwX1_init (own : String) (idx : Nat) : mi_cw pP own idx kX1_init 0 := ⟨⟨pT_mem 102 (by decide +kernel) (by decide +kernel), pT_mem 24 (by decide +kernel) (by decide +kernel), by decide⟩, by decide, by decide, by decide +kernel⟩
theorem cwX1_valueAt (own : String) (idx : Nat) : mi_cw pP own idx kX1_valueAt 1 := ⟨⟨pT_mem 430 (by decide +kernel) (by decide +kernel), pT_mem 24 (by decide +kernel) (by decide +kernel), by decide⟩, by decide, by decide, by decide +kernel⟩
theorem cwX1_isErased (own : String) (idx : Nat) : mi_cw pP own idx kX1_isErased 1 := ⟨⟨pT_mem 545 (by decide +kernel) (by decide +kernel), pT_mem 24 (by decide +kernel) (by decide +kernel), by decide⟩, by decide, by decide, by decide +kernel⟩
theorem cwX1_put (own : String) (idx : Nat) : mi_cw pP own idx kX1_put 2 := ⟨⟨pT_mem 420 (by decide +kernel) (by decide +kernel), pT_mem 24 (by decide +kernel) (by decide +kernel), by decide⟩, by decide, by decide, by decide +kernel⟩
theorem cwX1_erase (own : String) (idx : Nat) : mi_cw pP own idx kX1_erase 1 := ⟨⟨pT_mem 541 (by decide +kernel) (by decide +kernel), pT_mem 24 (by decide +kernel) (by decide +kernel), by decide⟩, by decide, by decide, by decide +kernel⟩
theorem cwX1_copyFrom (own : String) (idx : Nat) : mi_cw pP own idx kX1_copyFrom 1 := ⟨⟨pT_mem 438 (by decide +kernel) (by decide +kernel), pT_mem 24 (by decide +kernel) (by decide +kernel), by decide⟩, by decide, by decide, by decide +kernel⟩
theorem cwX1_spread (own : String) (idx : Nat) : mi_cw pP own idx kX1_spread 1 := ⟨⟨pT_mem 413 (by decide +kernel) (by decide +kernel), pT_mem 24 (by decide +kernel) (by decide +kernel), by decide⟩, by decide, by decide, by decide +kernel⟩
theorem cwX1_gathered (own : String) (idx : Nat) : mi_cw pP own idx kX1_gathered 0 := ⟨⟨pT_mem 470 (by decide +kernel) (by decide +kernel), pT_mem 24 (by decide +kernel) (by decide +kernel), by decide⟩, by decide, by decide, by decide +kernel⟩
theorem cwX1_mend (own : String) (idx : Nat) : mi_cw pP own idx kX1_mend 0 := ⟨⟨pT_mem 442 (by decide +kernel) (by decide +kernel), pT_mem 24 (by decide +kernel) (by decide +kernel), by decide⟩, by decide, by decide, by decide +kernel⟩
theorem cwX1_isEven (own : String) (idx : Nat) : mi_cw pP own idx kX1_isEven 0 := ⟨⟨pT_mem 474 (by decide +kernel) (by decide +kernel), pT_mem 24 (by decide +kernel) (by decide +kernel), by decide⟩, by decide, by decide, by decide +kernel⟩
theorem cwX1_fillErased (own : String) (idx : Nat) : mi_cw pP own idx kX1_fillErased 0 := ⟨⟨pT_mem 446 (by decide +kernel) (by decide +kernel), pT_mem 24 (by decide +kernel) (by decide +kernel), by decide⟩, by decide, by decide, by decide +kernel⟩
theorem cwX1_onlyOddOf (own : String) (idx : Nat) : mi_cw pP own idx kX1_onlyOddOf 1 := ⟨⟨pT_mem 462 (by decide +kernel) (by decide +kernel), pT_mem 24 (by decide +kernel) (by decide +kernel), by decide⟩, by decide, by decide, by decide +kernel⟩
theorem cwX1_parityOf (own : String) (idx : Nat) : mi_cw pP own idx kX1_parityOf 1 := ⟨⟨pT_mem 426 (by decide +kernel) (by decide +kernel), pT_mem 24 (by decide +kernel) (by decide +kernel), by decide⟩, by decide, by decide, by decide +kernel⟩
theorem cwX1_placeOf (own : String) (idx : Nat) : mi_cw pP own idx kX1_placeOf 1 := ⟨⟨pT_mem 416 (by decide +kernel) (by decide +kernel), pT_mem 24 (by decide +kernel) (by decide +kernel), by decide⟩, by decide, by decide, by decide +kernel⟩
theorem cwX2_init (own : String) (idx : Nat) : mi_cw pP own idx kX2_init 0 := ⟨⟨pT_mem 69 (by decide +kernel) (by decide +kernel), pT_mem 22 (by decide +kernel) (by decide +kernel), by decide⟩, by decide, by decide, by decide +kernel⟩
theorem cwX2_seekTime (own : String) (idx : Nat) : mi_cw pP own idx kX2_seekTime 2 := ⟨⟨pT_mem 579 (by decide +kernel) (by decide +kernel), pT_mem 22 (by decide +kernel) (by decide +kernel), by decide⟩, by decide, by decide, by decide +kernel⟩
theorem cwX2_restOfTurn (own : String) (idx : Nat) : mi_cw pP own idx kX2_restOfTurn 1 := ⟨⟨pT_mem 588 (by decide +kernel) (by decide +kernel), pT_mem 22 (by decide +kernel) (by decide +kernel), by decide⟩, by decide, by decide, by decide +kernel⟩
theorem cwX2_clockBehind (own : String) (idx : Nat) : mi_cw pP own idx kX2_clockBehind 3 := ⟨⟨pT_mem 576 (by decide +kernel) (by decide +kernel), pT_mem 22 (by decide +kernel) (by decide +kernel), by decide⟩, by decide, by decide, by decide +kernel⟩
theorem cwX2_headBehind (own : String) (idx : Nat) : mi_cw pP own idx kX2_headBehind 1 := ⟨⟨pT_mem 598 (by decide +kernel) (by decide +kernel), pT_mem 22 (by decide +kernel) (by decide +kernel), by decide⟩, by decide, by decide, by decide +kernel⟩
theorem cwX2_passOver (own : String) (idx : Nat) : mi_cw pP own idx kX2_passOver 1 := ⟨⟨pT_mem 573 (by decide +kernel) (by decide +kernel), pT_mem 22 (by decide +kernel) (by decide +kernel), by decide⟩, by decide, by decide, by decide +kernel⟩
theorem cwX2_timeOver (own : String) (idx : Nat) : mi_cw pP own idx kX2_timeOver 2 := ⟨⟨pT_mem 663 (by decide +kernel) (by decide +kernel), pT_mem 22 (by decide +kernel) (by decide +kernel), by decide⟩, by decide, by decide, by decide +kernel⟩
theorem cwX3_init (own : String) (idx : Nat) : mi_cw pP own idx kX3_init 0 := ⟨⟨pT_mem 53 (by decide +kernel) (by decide +kernel), pT_mem 21 (by decide +kernel) (by decide +kernel), by decide⟩, by decide, by decide, by decide +kernel⟩
theorem cwX3_tellerOf (own : String) (idx : Nat) : mi_cw pP own idx kX3_tellerOf 2 := ⟨⟨pT_mem 709 (by decide +kernel) (by decide +kernel), pT_mem 21 (by decide +kernel) (by decide +kernel), by decide⟩, by decide, by decide, by decide +kernel⟩
theorem cwX3_firstOf (own : String) (idx : Nat) : mi_cw pP own idx kX3_firstOf 2 := ⟨⟨pT_mem 713 (by decide +kernel) (by decide +kernel), pT_mem 21 (by decide +kernel) (by decide +kernel), by decide⟩, by decide, by decide, by decide +kernel⟩
theorem cwX3_lengthOf (own : String) (idx : Nat) : mi_cw pP own idx kX3_lengthOf 2 := ⟨⟨pT_mem 717 (by decide +kernel) (by decide +kernel), pT_mem 21 (by decide +kernel) (by decide +kernel), by decide⟩, by decide, by decide, by decide +kernel⟩
theorem cwX4_init (own : String) (idx : Nat) : mi_cw pP own idx kX4_init 0 := ⟨⟨pT_mem 117 (by decide +kernel) (by decide +kernel), pT_mem 25 (by decide +kernel) (by decide +kernel), by decide⟩, by decide, by decide, by decide +kernel⟩
theorem cwX4_mark (own : String) (idx : Nat) : mi_cw pP own idx kX4_mark 1 := ⟨⟨pT_mem 478 (by decide +kernel) (by decide +kernel), pT_mem 25 (by decide +kernel) (by decide +kernel), by decide⟩, by decide, by decide, by decide +kernel⟩
theorem cwX4_isJoined (own : String) (idx : Nat) : mi_cw pP own idx kX4_isJoined 2 := ⟨⟨pT_mem 485 (by decide +kernel) (by decide +kernel), pT_mem 25 (by decide +kernel) (by decide +kernel), by decide⟩, by decide, by decide, by decide +kernel⟩
theorem cwX4_dsvBehind (own : String) (idx : Nat) : mi_cw pP own idx kX4_dsvBehind 1 := ⟨⟨pT_mem 489 (by decide +kernel) (by decide +kernel), pT_mem 25 (by decide +kernel) (by decide +kernel), by decide⟩, by decide, by decide, by decide +kernel⟩
theorem cwX4_putBits (own : String) (idx : Nat) : mi_cw pP own idx kX4_putBits 1 := ⟨⟨pT_mem 496 (by decide +kernel) (by decide +kernel), pT_mem 25 (by decide +kernel) (by decide +kernel), by decide⟩, by decide, by decide, by decide +kernel⟩
theorem cwX5_init (own : String) (idx : Nat) : mi_cw pP own idx kX5_init 1 := ⟨⟨pT_mem 148 (by decide +kernel) (by decide +kernel), pT_mem 26 (by decide +kernel) (by decide +kernel), by decide⟩, by decide, by decide, by decide +kernel⟩
theorem cwX5_fillWith (own : String) (idx : Nat) : mi_cw pP own idx kX5_fillWith 3 := ⟨⟨pT_mem 399 (by decide +kernel) (by decide +kernel), pT_mem 26 (by decide +kernel) (by decide +kernel), by decide⟩, by decide, by decide, by decide +kernel⟩
theorem cwX5_eraseColumn (own : String) (idx : Nat) : mi_cw pP own idx kX5_eraseColumn 3 := ⟨⟨pT_mem 537 (by decide +kernel) (by decide +kernel), pT_mem 26 (by decide +kernel) (by decide +kernel), by decide⟩, by decide, by decide, by decide +kernel⟩
theorem cwX5_makeWrong (own : String) (idx : Nat) : mi_cw pP own idx kX5_makeWrong 3 := ⟨⟨pT_mem 554 (by decide +kernel) (by decide +kernel), pT_mem 26 (by decide +kernel) (by decide +kernel), by decide⟩, by decide, by decide, by decide +kernel⟩
theorem cwX5_raw (own : String) (idx : Nat) : mi_cw pP own idx kX5_raw 0 := ⟨⟨pT_mem 631 (by decide +kernel) (by decide +kernel), pT_mem 26 (by decide +kernel) (by decide +kernel), by decide⟩, by decide, by decide, by decide +kernel⟩
theorem cwX5_stateWithout (own : String) (idx : Nat) : mi_cw pP own idx kX5_stateWithout 2 := ⟨⟨pT_mem 673 (by decide +kernel) (by decide +kernel), pT_mem 26 (by decide +kernel) (by decide +kernel), by decide⟩, by decide, by decide, by decide +kernel⟩
theorem cwX5_reckon (own : String) (idx : Nat) : mi_cw pP own idx kX5_reckon 1 := ⟨⟨pT_mem 434 (by decide +kernel) (by decide +kernel), pT_mem 26 (by decide +kernel) (by decide +kernel), by decide⟩, by decide, by decide, by decide +kernel⟩
theorem cwX5_judged (own : String) (idx : Nat) : mi_cw pP own idx kX5_judged 1 := ⟨⟨pT_mem 466 (by decide +kernel) (by decide +kernel), pT_mem 26 (by decide +kernel) (by decide +kernel), by decide⟩, by decide, by decide, by decide +kernel⟩
theorem cwX5_mixed (own : String) (idx : Nat) : mi_cw pP own idx kX5_mixed 1 := ⟨⟨pT_mem 409 (by decide +kernel) (by decide +kernel), pT_mem 26 (by decide +kernel) (by decide +kernel), by decide⟩, by decide, by decide, by decide +kernel⟩
theorem cwX5_sumOf (own : String) (idx : Nat) : mi_cw pP own idx kX5_sumOf 1 := ⟨⟨pT_mem 402 (by decide +kernel) (by decide +kernel), pT_mem 26 (by decide +kernel) (by decide +kernel), by decide⟩, by decide, by decide, by decide +kernel⟩
theorem cwX5_nibbleOf (own : String) (idx : Nat) : mi_cw pP own idx kX5_nibbleOf 2 := ⟨⟨pT_mem 405 (by decide +kernel) (by decide +kernel), pT_mem 26 (by decide +kernel) (by decide +kernel), by decide⟩, by decide, by decide, by decide +kernel⟩
theorem cwX6_zoneOf (own : String) (idx : Nat) : mi_cw pP own idx kX6_zoneOf 1 := ⟨⟨pT_mem 525 (by decide +kernel) (by decide +kernel), pT_mem 34 (by decide +kernel) (by decide +kernel), by decide⟩, by decide, by decide, by decide +kernel⟩
theorem cwX6_turnOf (own : String) (idx : Nat) : mi_cw pP own idx kX6_turnOf 1 := ⟨⟨pT_mem 522 (by decide +kernel) (by decide +kernel), pT_mem 34 (by decide +kernel) (by decide +kernel), by decide⟩, by decide, by decide, by decide +kernel⟩
theorem cwX6_angleOf (own : String) (idx : Nat) : mi_cw pP own idx kX6_angleOf 1 := ⟨⟨pT_mem 532 (by decide +kernel) (by decide +kernel), pT_mem 34 (by decide +kernel) (by decide +kernel), by decide⟩, by decide, by decide, by decide +kernel⟩
theorem cwX6_speedOf (own : String) (idx : Nat) : mi_cw pP own idx kX6_speedOf 1 := ⟨⟨pT_mem 593 (by decide +kernel) (by decide +kernel), pT_mem 34 (by decide +kernel) (by decide +kernel), by decide⟩, by decide, by decide, by decide +kernel⟩
theorem cwX6_positionOf (own : String) (idx : Nat) : mi_cw pP own idx kX6_positionOf 1 := ⟨⟨pT_mem 622 (by decide +kernel) (by decide +kernel), pT_mem 34 (by decide +kernel) (by decide +kernel), by decide⟩, by decide, by decide, by decide +kernel⟩
theorem cwX7_init (own : String) (idx : Nat) : mi_cw pP own idx kX7_init 0 := ⟨⟨pT_mem 194 (by decide +kernel) (by decide +kernel), pT_mem 27 (by decide +kernel) (by decide +kernel), by decide⟩, by decide, by decide, by decide +kernel⟩
theorem cwX7_reserve (own : String) (idx : Nat) : mi_cw pP own idx kX7_reserve 4 := ⟨⟨pT_mem 356 (by decide +kernel) (by decide +kernel), pT_mem 27 (by decide +kernel) (by decide +kernel), by decide⟩, by decide, by decide, by decide +kernel⟩
theorem cwX7_behind (own : String) (idx : Nat) : mi_cw pP own idx kX7_behind 0 := ⟨⟨pT_mem 360 (by decide +kernel) (by decide +kernel), pT_mem 27 (by decide +kernel) (by decide +kernel), by decide⟩, by decide, by decide, by decide +kernel⟩
theorem cwX7_holds (own : String) (idx : Nat) : mi_cw pP own idx kX7_holds 1 := ⟨⟨pT_mem 617 (by decide +kernel) (by decide +kernel), pT_mem 27 (by decide +kernel) (by decide +kernel), by decide⟩, by decide, by decide, by decide +kernel⟩
theorem cwX7_hasRoom (own : String) (idx : Nat) : mi_cw pP own idx kX7_hasRoom 0 := ⟨⟨pT_mem 390 (by decide +kernel) (by decide +kernel), pT_mem 27 (by decide +kernel) (by decide +kernel), by decide⟩, by decide, by decide, by decide +kernel⟩
theorem cwX7_takeNext (own : String) (idx : Nat) : mi_cw pP own idx kX7_takeNext 0 := ⟨⟨pT_mem 395 (by decide +kernel) (by decide +kernel), pT_mem 27 (by decide +kernel) (by decide +kernel), by decide⟩, by decide, by decide, by decide +kernel⟩
theorem cwX7_giveBack (own : String) (idx : Nat) : mi_cw pP own idx kX7_giveBack 0 := ⟨⟨pT_mem 513 (by decide +kernel) (by decide +kernel), pT_mem 27 (by decide +kernel) (by decide +kernel), by decide⟩, by decide, by decide, by decide +kernel⟩
theorem cwJ6_bitCount_0f7a4 (own : String) (idx : Nat) : mi_cw pP own idx kJ6_bitCount_0f7a4 1 := ⟨⟨pT_mem 451 (by decide +kernel) (by decide +kernel), pT_mem 35 (by decide +kernel) (by decide +kernel), by decide⟩, by decide, by decide, by decide +kernel⟩
theorem cwJ6_numberOfTrailingZeros_0f7a4 (own : String) (idx : Nat) : mi_cw pP own idx kJ6_numberOfTrailingZeros_0f7a4 1 := ⟨⟨pT_mem 457 (by decide +kernel) (by decide +kernel), pT_mem 35 (by decide +kernel) (by decide +kernel), by decide⟩, by decide, by decide, by decide +kernel⟩
theorem cwJ9_abs_0f7a4 (own : String) (idx : Nat) : mi_cw pP own idx kJ9_abs_0f7a4 1 := ⟨⟨pT_mem 492 (by decide +kernel) (by decide +kernel), pT_mem 36 (by decide +kernel) (by decide +kernel), by decide⟩, by decide, by decide, by decide +kernel⟩
theorem cwJ9_max_7cf53 (own : String) (idx : Nat) : mi_cw pP own idx kJ9_max_7cf53 2 := ⟨⟨pT_mem 499 (by decide +kernel) (by decide +kernel), pT_mem 36 (by decide +kernel) (by decide +kernel), by decide⟩, by decide, by decide, by decide +kernel⟩
theorem cwJ9_min_7cf53 (own : String) (idx : Nat) : mi_cw pP own idx kJ9_min_7cf53 2 := ⟨⟨pT_mem 601 (by decide +kernel) (by decide +kernel), pT_mem 36 (by decide +kernel) (by decide +kernel), by decide⟩, by decide, by decide, by decide +kernel⟩
theorem cwL_below (own : String) (idx : Nat) : mi_cw pP own idx kL_below 2 := ⟨⟨pT_mem 720 (by decide +kernel) (by decide +kernel), pT_mem 19 (by decide +kernel) (by decide +kernel), by decide⟩, by decide, by decide, by decide +kernel⟩
theorem cwL_cell (own : String) (idx : Nat) : mi_cw pP own idx kL_cell 2 := ⟨⟨pT_mem 724 (by decide +kernel) (by decide +kernel), pT_mem 19 (by decide +kernel) (by decide +kernel), by decide⟩, by decide, by decide, by decide +kernel⟩
theorem cwL_nibbles (own : String) (idx : Nat) : mi_cw pP own idx kL_nibbles 2 := ⟨⟨pT_mem 728 (by decide +kernel) (by decide +kernel), pT_mem 19 (by decide +kernel) (by decide +kernel), by decide⟩, by decide, by decide, by decide +kernel⟩
theorem ci_RL_23 : mi_cI pP RL 23 kX8_init 0 := ⟨cwX8_init _ _, rfl, rfl, pT_mem 40 (by decide +kernel) (by decide +kernel), Or.inl (pT_mem 39 (by decide +kernel) (by decide +kernel))⟩
theorem ob_RX8_1 : Jvm.Cond.methodLink RX8 1 objectInit ∈ pP.2.1 := pT_mem 42 (by decide +kernel) (by decide +kernel)
theorem ci_RX8_23 : mi_cI pP RX8 23 kX3_init 0 := ⟨cwX3_init _ _, rfl, rfl, pT_mem 52 (by decide +kernel) (by decide +kernel), Or.inr ⟨"PitHouse", by decide +kernel⟩⟩
theorem ob_RX3_3 : Jvm.Cond.methodLink RX3 3 objectInit ∈ pP.2.1 := pT_mem 54 (by decide +kernel) (by decide +kernel)
theorem ci_RX8_30 : mi_cI pP RX8 30 kX2_init 0 := ⟨cwX2_init _ _, rfl, rfl, pT_mem 68 (by decide +kernel) (by decide +kernel), Or.inr ⟨"PitHouse", by decide +kernel⟩⟩
theorem ob_RX2_3 : Jvm.Cond.methodLink RX2 3 objectInit ∈ pP.2.1 := pT_mem 70 (by decide +kernel) (by decide +kernel)
theorem ci_RX8_37 : mi_cI pP RX8 37 kX0_init 0 := ⟨cwX0_init _ _, rfl, rfl, pT_mem 95 (by decide +kernel) (by decide +kernel), Or.inr ⟨"PitHouse", by decide +kernel⟩⟩
theorem ob_RX0_1 : Jvm.Cond.methodLink RX0 1 objectInit ∈ pP.2.1 := pT_mem 97 (by decide +kernel) (by decide +kernel)
theorem ci_RX0_9 : mi_cI pP RX0 9 kX1_init 0 := ⟨cwX1_init _ _, rfl, rfl, pT_mem 101 (by decide +kernel) (by decide +kernel), Or.inr ⟨"PitHouse", by decide +kernel⟩⟩
theorem ob_RX1_3 : Jvm.Cond.methodLink RX1 3 objectInit ∈ pP.2.1 := pT_mem 103 (by decide +kernel) (by decide +kernel)
theorem ci_RX0_18 : mi_cI pP RX0 18 kX4_init 0 := ⟨cwX4_init _ _, rfl, rfl, pT_mem 116 (by decide +kernel) (by decide +kernel), Or.inr ⟨"PitHouse", by decide +kernel⟩⟩
theorem ob_RX4_1 : Jvm.Cond.methodLink RX4 1 objectInit ∈ pP.2.1 := pT_mem 118 (by decide +kernel) (by decide +kernel)
theorem ci_RX8_59 : mi_cI pP RX8 59 kX5_init 1 := ⟨cwX5_init _ _, rfl, rfl, pT_mem 147 (by decide +kernel) (by decide +kernel), Or.inl (pT_mem 146 (by decide +kernel) (by decide +kernel))⟩
theorem ob_RX5_3 : Jvm.Cond.methodLink RX5 3 objectInit ∈ pP.2.1 := pT_mem 149 (by decide +kernel) (by decide +kernel)
theorem ci_RX5_11 : mi_cI pP RX5 11 kX1_init 0 := ⟨cwX1_init _ _, rfl, rfl, pT_mem 101 (by decide +kernel) (by decide +kernel), Or.inr ⟨"PitHouse", by decide +kernel⟩⟩
theorem ci_RX8_62 : mi_cI pP RX8 62 kX7_init 0 := ⟨cwX7_init _ _, rfl, rfl, pT_mem 193 (by decide +kernel) (by decide +kernel), Or.inr ⟨"PitHouse", by decide +kernel⟩⟩
theorem ob_RX7_3 : Jvm.Cond.methodLink RX7 3 objectInit ∈ pP.2.1 := pT_mem 195 (by decide +kernel) (by decide +kernel)
theorem cv_RL_24 : mi_cV pP RL 24 kX8_session 0 := ⟨cwX8_session _ _, pT_mem 256 (by decide +kernel) (by decide +kernel), pT_mem 257 (by decide +kernel) (by decide +kernel), pT_mem 258 (by decide +kernel) (by decide +kernel)⟩
theorem cv_RX8_63 : mi_cV pP RX8 63 kX8_left 0 := ⟨cwX8_left _ _, pT_mem 260 (by decide +kernel) (by decide +kernel), pT_mem 262 (by decide +kernel) (by decide +kernel), pT_mem 0 (by decide +kernel) (by decide +kernel)⟩
theorem cv_RL_28 : mi_cV pP RL 28 kX8_track 2 := ⟨cwX8_track _ _, pT_mem 332 (by decide +kernel) (by decide +kernel), pT_mem 333 (by decide +kernel) (by decide +kernel), pT_mem 334 (by decide +kernel) (by decide +kernel)⟩
theorem cv_RX8_81 : mi_cV pP RX8 81 kX7_reserve 4 := ⟨cwX7_reserve _ _, pT_mem 353 (by decide +kernel) (by decide +kernel), pT_mem 354 (by decide +kernel) (by decide +kernel), pT_mem 355 (by decide +kernel) (by decide +kernel)⟩
theorem cv_RX8_85 : mi_cV pP RX8 85 kX7_behind 0 := ⟨cwX7_behind _ _, pT_mem 357 (by decide +kernel) (by decide +kernel), pT_mem 358 (by decide +kernel) (by decide +kernel), pT_mem 359 (by decide +kernel) (by decide +kernel)⟩
theorem cv_RL_58 : mi_cV pP RL 58 kX8_write 2 := ⟨cwX8_write _ _, pT_mem 361 (by decide +kernel) (by decide +kernel), pT_mem 362 (by decide +kernel) (by decide +kernel), pT_mem 363 (by decide +kernel) (by decide +kernel)⟩
theorem cv_RX8_91 : mi_cV pP RX8 91 kX8_trackAt 1 := ⟨cwX8_trackAt _ _, pT_mem 365 (by decide +kernel) (by decide +kernel), pT_mem 367 (by decide +kernel) (by decide +kernel), pT_mem 2 (by decide +kernel) (by decide +kernel)⟩
theorem cv_RX8_99 : mi_cV pP RX8 99 kX7_hasRoom 0 := ⟨cwX7_hasRoom _ _, pT_mem 387 (by decide +kernel) (by decide +kernel), pT_mem 388 (by decide +kernel) (by decide +kernel), pT_mem 389 (by decide +kernel) (by decide +kernel)⟩
theorem cv_RX8_105 : mi_cV pP RX8 105 kX7_takeNext 0 := ⟨cwX7_takeNext _ _, pT_mem 392 (by decide +kernel) (by decide +kernel), pT_mem 393 (by decide +kernel) (by decide +kernel), pT_mem 394 (by decide +kernel) (by decide +kernel)⟩
theorem cv_RX8_111 : mi_cV pP RX8 111 kX5_fillWith 3 := ⟨cwX5_fillWith _ _, pT_mem 396 (by decide +kernel) (by decide +kernel), pT_mem 397 (by decide +kernel) (by decide +kernel), pT_mem 398 (by decide +kernel) (by decide +kernel)⟩
theorem cs_RX5_50 : mi_cS pP RX5 50 kX5_sumOf 1 := ⟨cwX5_sumOf _ _, pT_mem 400 (by decide +kernel) (by decide +kernel), pT_mem 401 (by decide +kernel) (by decide +kernel)⟩
theorem cs_RX5_86 : mi_cS pP RX5 86 kX5_nibbleOf 2 := ⟨cwX5_nibbleOf _ _, pT_mem 403 (by decide +kernel) (by decide +kernel), pT_mem 404 (by decide +kernel) (by decide +kernel)⟩
theorem cv_RX5_54 : mi_cV pP RX5 54 kX5_mixed 1 := ⟨cwX5_mixed _ _, pT_mem 406 (by decide +kernel) (by decide +kernel), pT_mem 408 (by decide +kernel) (by decide +kernel), pT_mem 3 (by decide +kernel) (by decide +kernel)⟩
theorem cv_RX5_58 : mi_cV pP RX5 58 kX1_spread 1 := ⟨cwX1_spread _ _, pT_mem 410 (by decide +kernel) (by decide +kernel), pT_mem 411 (by decide +kernel) (by decide +kernel), pT_mem 412 (by decide +kernel) (by decide +kernel)⟩
theorem cs_RX1_31 : mi_cS pP RX1 31 kX1_placeOf 1 := ⟨cwX1_placeOf _ _, pT_mem 414 (by decide +kernel) (by decide +kernel), pT_mem 415 (by decide +kernel) (by decide +kernel)⟩
theorem cv_RX1_27 : mi_cV pP RX1 27 kX1_put 2 := ⟨cwX1_put _ _, pT_mem 417 (by decide +kernel) (by decide +kernel), pT_mem 418 (by decide +kernel) (by decide +kernel), pT_mem 419 (by decide +kernel) (by decide +kernel)⟩
theorem cv_RX1_35 : mi_cV pP RX1 35 kX1_parityOf 1 := ⟨cwX1_parityOf _ _, pT_mem 423 (by decide +kernel) (by decide +kernel), pT_mem 425 (by decide +kernel) (by decide +kernel), pT_mem 4 (by decide +kernel) (by decide +kernel)⟩
theorem cv_RX1_38 : mi_cV pP RX1 38 kX1_valueAt 1 := ⟨cwX1_valueAt _ _, pT_mem 427 (by decide +kernel) (by decide +kernel), pT_mem 428 (by decide +kernel) (by decide +kernel), pT_mem 429 (by decide +kernel) (by decide +kernel)⟩
theorem cv_RX5_62 : mi_cV pP RX5 62 kX5_reckon 1 := ⟨cwX5_reckon _ _, pT_mem 431 (by decide +kernel) (by decide +kernel), pT_mem 433 (by decide +kernel) (by decide +kernel), pT_mem 5 (by decide +kernel) (by decide +kernel)⟩
theorem cv_RX5_90 : mi_cV pP RX5 90 kX1_copyFrom 1 := ⟨cwX1_copyFrom _ _, pT_mem 435 (by decide +kernel) (by decide +kernel), pT_mem 436 (by decide +kernel) (by decide +kernel), pT_mem 437 (by decide +kernel) (by decide +kernel)⟩
theorem cv_RX5_94 : mi_cV pP RX5 94 kX1_mend 0 := ⟨cwX1_mend _ _, pT_mem 439 (by decide +kernel) (by decide +kernel), pT_mem 440 (by decide +kernel) (by decide +kernel), pT_mem 441 (by decide +kernel) (by decide +kernel)⟩
theorem cv_RX1_41 : mi_cV pP RX1 41 kX1_fillErased 0 := ⟨cwX1_fillErased _ _, pT_mem 443 (by decide +kernel) (by decide +kernel), pT_mem 445 (by decide +kernel) (by decide +kernel), pT_mem 6 (by decide +kernel) (by decide +kernel)⟩
theorem cs_RX1_51 : mi_cS pP RX1 51 kJ6_bitCount_0f7a4 1 := ⟨cwJ6_bitCount_0f7a4 _ _, pT_mem 449 (by decide +kernel) (by decide +kernel), pT_mem 450 (by decide +kernel) (by decide +kernel)⟩
theorem cs_RX1_56 : mi_cS pP RX1 56 kJ6_numberOfTrailingZeros_0f7a4 1 := ⟨cwJ6_numberOfTrailingZeros_0f7a4 _ _, pT_mem 455 (by decide +kernel) (by decide +kernel), pT_mem 456 (by decide +kernel) (by decide +kernel)⟩
theorem cv_RX1_44 : mi_cV pP RX1 44 kX1_onlyOddOf 1 := ⟨cwX1_onlyOddOf _ _, pT_mem 459 (by decide +kernel) (by decide +kernel), pT_mem 461 (by decide +kernel) (by decide +kernel), pT_mem 7 (by decide +kernel) (by decide +kernel)⟩
theorem cv_RX5_97 : mi_cV pP RX5 97 kX5_judged 1 := ⟨cwX5_judged _ _, pT_mem 463 (by decide +kernel) (by decide +kernel), pT_mem 465 (by decide +kernel) (by decide +kernel), pT_mem 8 (by decide +kernel) (by decide +kernel)⟩
theorem cv_RX5_82 : mi_cV pP RX5 82 kX1_gathered 0 := ⟨cwX1_gathered _ _, pT_mem 467 (by decide +kernel) (by decide +kernel), pT_mem 468 (by decide +kernel) (by decide +kernel), pT_mem 469 (by decide +kernel) (by decide +kernel)⟩
theorem cv_RX5_121 : mi_cV pP RX5 121 kX1_isEven 0 := ⟨cwX1_isEven _ _, pT_mem 471 (by decide +kernel) (by decide +kernel), pT_mem 472 (by decide +kernel) (by decide +kernel), pT_mem 473 (by decide +kernel) (by decide +kernel)⟩
theorem cv_RX5_110 : mi_cV pP RX5 110 kX4_mark 1 := ⟨cwX4_mark _ _, pT_mem 475 (by decide +kernel) (by decide +kernel), pT_mem 476 (by decide +kernel) (by decide +kernel), pT_mem 477 (by decide +kernel) (by decide +kernel)⟩
theorem cv_RX4_28 : mi_cV pP RX4 28 kX1_valueAt 1 := ⟨cwX1_valueAt _ _, pT_mem 481 (by decide +kernel) (by decide +kernel), pT_mem 428 (by decide +kernel) (by decide +kernel), pT_mem 429 (by decide +kernel) (by decide +kernel)⟩
theorem cv_RX4_32 : mi_cV pP RX4 32 kX4_isJoined 2 := ⟨cwX4_isJoined _ _, pT_mem 482 (by decide +kernel) (by decide +kernel), pT_mem 484 (by decide +kernel) (by decide +kernel), pT_mem 9 (by decide +kernel) (by decide +kernel)⟩
theorem cv_RX4_40 : mi_cV pP RX4 40 kX4_dsvBehind 1 := ⟨cwX4_dsvBehind _ _, pT_mem 486 (by decide +kernel) (by decide +kernel), pT_mem 488 (by decide +kernel) (by decide +kernel), pT_mem 10 (by decide +kernel) (by decide +kernel)⟩
theorem cs_RX4_43 : mi_cS pP RX4 43 kJ9_abs_0f7a4 1 := ⟨cwJ9_abs_0f7a4 _ _, pT_mem 490 (by decide +kernel) (by decide +kernel), pT_mem 491 (by decide +kernel) (by decide +kernel)⟩
theorem cv_RX4_36 : mi_cV pP RX4 36 kX4_putBits 1 := ⟨cwX4_putBits _ _, pT_mem 493 (by decide +kernel) (by decide +kernel), pT_mem 495 (by decide +kernel) (by decide +kernel), pT_mem 11 (by decide +kernel) (by decide +kernel)⟩
theorem cs_RX4_48 : mi_cS pP RX4 48 kJ9_max_7cf53 2 := ⟨cwJ9_max_7cf53 _ _, pT_mem 497 (by decide +kernel) (by decide +kernel), pT_mem 498 (by decide +kernel) (by decide +kernel)⟩
theorem cv_RL_38 : mi_cV pP RL 38 kX8_starve 1 := ⟨cwX8_starve _ _, pT_mem 500 (by decide +kernel) (by decide +kernel), pT_mem 501 (by decide +kernel) (by decide +kernel), pT_mem 502 (by decide +kernel) (by decide +kernel)⟩
theorem cv_RL_51 : mi_cV pP RL 51 kX8_close 1 := ⟨cwX8_close _ _, pT_mem 505 (by decide +kernel) (by decide +kernel), pT_mem 506 (by decide +kernel) (by decide +kernel), pT_mem 507 (by decide +kernel) (by decide +kernel)⟩
theorem cv_RX8_125 : mi_cV pP RX8 125 kX7_giveBack 0 := ⟨cwX7_giveBack _ _, pT_mem 510 (by decide +kernel) (by decide +kernel), pT_mem 511 (by decide +kernel) (by decide +kernel), pT_mem 512 (by decide +kernel) (by decide +kernel)⟩
theorem cv_RL_41 : mi_cV pP RL 41 kX8_scratch 4 := ⟨cwX8_scratch _ _, pT_mem 514 (by decide +kernel) (by decide +kernel), pT_mem 515 (by decide +kernel) (by decide +kernel), pT_mem 516 (by decide +kernel) (by decide +kernel)⟩
theorem cs_RX8_160 : mi_cS pP RX8 160 kX6_turnOf 1 := ⟨cwX6_turnOf _ _, pT_mem 520 (by decide +kernel) (by decide +kernel), pT_mem 521 (by decide +kernel) (by decide +kernel)⟩
theorem cs_RX6_13 : mi_cS pP RX6 13 kX6_zoneOf 1 := ⟨cwX6_zoneOf _ _, pT_mem 523 (by decide +kernel) (by decide +kernel), pT_mem 524 (by decide +kernel) (by decide +kernel)⟩
theorem cs_RX8_165 : mi_cS pP RX8 165 kX6_angleOf 1 := ⟨cwX6_angleOf _ _, pT_mem 530 (by decide +kernel) (by decide +kernel), pT_mem 531 (by decide +kernel) (by decide +kernel)⟩
theorem cv_RX8_172 : mi_cV pP RX8 172 kX5_eraseColumn 3 := ⟨cwX5_eraseColumn _ _, pT_mem 534 (by decide +kernel) (by decide +kernel), pT_mem 535 (by decide +kernel) (by decide +kernel), pT_mem 536 (by decide +kernel) (by decide +kernel)⟩
theorem cv_RX5_66 : mi_cV pP RX5 66 kX1_erase 1 := ⟨cwX1_erase _ _, pT_mem 538 (by decide +kernel) (by decide +kernel), pT_mem 539 (by decide +kernel) (by decide +kernel), pT_mem 540 (by decide +kernel) (by decide +kernel)⟩
theorem cv_RX1_23 : mi_cV pP RX1 23 kX1_isErased 1 := ⟨cwX1_isErased _ _, pT_mem 542 (by decide +kernel) (by decide +kernel), pT_mem 543 (by decide +kernel) (by decide +kernel), pT_mem 544 (by decide +kernel) (by decide +kernel)⟩
theorem cv_RL_45 : mi_cV pP RL 45 kX8_rot 1 := ⟨cwX8_rot _ _, pT_mem 546 (by decide +kernel) (by decide +kernel), pT_mem 547 (by decide +kernel) (by decide +kernel), pT_mem 548 (by decide +kernel) (by decide +kernel)⟩
theorem cv_RX8_178 : mi_cV pP RX8 178 kX5_makeWrong 3 := ⟨cwX5_makeWrong _ _, pT_mem 551 (by decide +kernel) (by decide +kernel), pT_mem 552 (by decide +kernel) (by decide +kernel), pT_mem 553 (by decide +kernel) (by decide +kernel)⟩
theorem cv_RX5_70 : mi_cV pP RX5 70 kX1_isErased 1 := ⟨cwX1_isErased _ _, pT_mem 555 (by decide +kernel) (by decide +kernel), pT_mem 543 (by decide +kernel) (by decide +kernel), pT_mem 544 (by decide +kernel) (by decide +kernel)⟩
theorem cv_RX5_74 : mi_cV pP RX5 74 kX1_valueAt 1 := ⟨cwX1_valueAt _ _, pT_mem 556 (by decide +kernel) (by decide +kernel), pT_mem 428 (by decide +kernel) (by decide +kernel), pT_mem 429 (by decide +kernel) (by decide +kernel)⟩
theorem cv_RX5_78 : mi_cV pP RX5 78 kX1_put 2 := ⟨cwX1_put _ _, pT_mem 557 (by decide +kernel) (by decide +kernel), pT_mem 418 (by decide +kernel) (by decide +kernel), pT_mem 419 (by decide +kernel) (by decide +kernel)⟩
theorem cv_RL_48 : mi_cV pP RL 48 kX8_read 1 := ⟨cwX8_read _ _, pT_mem 558 (by decide +kernel) (by decide +kernel), pT_mem 559 (by decide +kernel) (by decide +kernel), pT_mem 560 (by decide +kernel) (by decide +kernel)⟩
theorem cs_RX8_188 : mi_cS pP RX8 188 kX8_checkSector 1 := ⟨cwX8_checkSector _ _, pT_mem 562 (by decide +kernel) (by decide +kernel), pT_mem 563 (by decide +kernel) (by decide +kernel)⟩
theorem cs_RX8_136 : mi_cS pP RX8 136 kX8_isSector 1 := ⟨cwX8_isSector _ _, pT_mem 565 (by decide +kernel) (by decide +kernel), pT_mem 566 (by decide +kernel) (by decide +kernel)⟩
theorem cv_RX8_193 : mi_cV pP RX8 193 kX2_passOver 1 := ⟨cwX2_passOver _ _, pT_mem 570 (by decide +kernel) (by decide +kernel), pT_mem 571 (by decide +kernel) (by decide +kernel), pT_mem 572 (by decide +kernel) (by decide +kernel)⟩
theorem cs_RX2_70 : mi_cS pP RX2 70 kX2_clockBehind 3 := ⟨cwX2_clockBehind _ _, pT_mem 574 (by decide +kernel) (by decide +kernel), pT_mem 575 (by decide +kernel) (by decide +kernel)⟩
theorem cs_RX2_56 : mi_cS pP RX2 56 kX2_seekTime 2 := ⟨cwX2_seekTime _ _, pT_mem 577 (by decide +kernel) (by decide +kernel), pT_mem 578 (by decide +kernel) (by decide +kernel)⟩
theorem cs_RX2_33 : mi_cS pP RX2 33 kX6_turnOf 1 := ⟨cwX6_turnOf _ _, pT_mem 582 (by decide +kernel) (by decide +kernel), pT_mem 521 (by decide +kernel) (by decide +kernel)⟩
theorem cs_RX2_39 : mi_cS pP RX2 39 kJ9_abs_0f7a4 1 := ⟨cwJ9_abs_0f7a4 _ _, pT_mem 583 (by decide +kernel) (by decide +kernel), pT_mem 491 (by decide +kernel) (by decide +kernel)⟩
theorem cs_RX2_44 : mi_cS pP RX2 44 kX6_angleOf 1 := ⟨cwX6_angleOf _ _, pT_mem 584 (by decide +kernel) (by decide +kernel), pT_mem 531 (by decide +kernel) (by decide +kernel)⟩
theorem cs_RX2_50 : mi_cS pP RX2 50 kX2_restOfTurn 1 := ⟨cwX2_restOfTurn _ _, pT_mem 586 (by decide +kernel) (by decide +kernel), pT_mem 587 (by decide +kernel) (by decide +kernel)⟩
theorem cs_RX2_62 : mi_cS pP RX2 62 kX6_speedOf 1 := ⟨cwX6_speedOf _ _, pT_mem 591 (by decide +kernel) (by decide +kernel), pT_mem 592 (by decide +kernel) (by decide +kernel)⟩
theorem cs_RX2_74 : mi_cS pP RX2 74 kX2_headBehind 1 := ⟨cwX2_headBehind _ _, pT_mem 596 (by decide +kernel) (by decide +kernel), pT_mem 597 (by decide +kernel) (by decide +kernel)⟩
theorem cs_RX2_66 : mi_cS pP RX2 66 kJ9_min_7cf53 2 := ⟨cwJ9_min_7cf53 _ _, pT_mem 599 (by decide +kernel) (by decide +kernel), pT_mem 600 (by decide +kernel) (by decide +kernel)⟩
theorem cv_RL_62 : mi_cV pP RL 62 kX8_clock 0 := ⟨cwX8_clock _ _, pT_mem 602 (by decide +kernel) (by decide +kernel), pT_mem 603 (by decide +kernel) (by decide +kernel), pT_mem 604 (by decide +kernel) (by decide +kernel)⟩
theorem cv_RL_66 : mi_cV pP RL 66 kX8_ofSector 2 := ⟨cwX8_ofSector _ _, pT_mem 606 (by decide +kernel) (by decide +kernel), pT_mem 607 (by decide +kernel) (by decide +kernel), pT_mem 608 (by decide +kernel) (by decide +kernel)⟩
theorem cv_RX8_142 : mi_cV pP RX8 142 kX8_trackOf 1 := ⟨cwX8_trackOf _ _, pT_mem 610 (by decide +kernel) (by decide +kernel), pT_mem 612 (by decide +kernel) (by decide +kernel), pT_mem 12 (by decide +kernel) (by decide +kernel)⟩
theorem cv_RX8_146 : mi_cV pP RX8 146 kX7_holds 1 := ⟨cwX7_holds _ _, pT_mem 614 (by decide +kernel) (by decide +kernel), pT_mem 615 (by decide +kernel) (by decide +kernel), pT_mem 616 (by decide +kernel) (by decide +kernel)⟩
theorem cv_RX7_34 : mi_cV pP RX7 34 kX7_behind 0 := ⟨cwX7_behind _ _, pT_mem 618 (by decide +kernel) (by decide +kernel), pT_mem 358 (by decide +kernel) (by decide +kernel), pT_mem 359 (by decide +kernel) (by decide +kernel)⟩
theorem cs_RX8_219 : mi_cS pP RX8 219 kJ6_bitCount_0f7a4 1 := ⟨cwJ6_bitCount_0f7a4 _ _, pT_mem 619 (by decide +kernel) (by decide +kernel), pT_mem 450 (by decide +kernel) (by decide +kernel)⟩
theorem cs_RX8_233 : mi_cS pP RX8 233 kX6_positionOf 1 := ⟨cwX6_positionOf _ _, pT_mem 620 (by decide +kernel) (by decide +kernel), pT_mem 621 (by decide +kernel) (by decide +kernel)⟩
theorem cv_RL_69 : mi_cV pP RL 69 kX8_nibbles 2 := ⟨cwX8_nibbles _ _, pT_mem 624 (by decide +kernel) (by decide +kernel), pT_mem 625 (by decide +kernel) (by decide +kernel), pT_mem 626 (by decide +kernel) (by decide +kernel)⟩
theorem cv_RX8_242 : mi_cV pP RX8 242 kX5_raw 0 := ⟨cwX5_raw _ _, pT_mem 628 (by decide +kernel) (by decide +kernel), pT_mem 629 (by decide +kernel) (by decide +kernel), pT_mem 630 (by decide +kernel) (by decide +kernel)⟩
theorem cv_RL_31 : mi_cV pP RL 31 kX8_ofTrack 2 := ⟨cwX8_ofTrack _ _, pT_mem 632 (by decide +kernel) (by decide +kernel), pT_mem 633 (by decide +kernel) (by decide +kernel), pT_mem 634 (by decide +kernel) (by decide +kernel)⟩
theorem cv_RX8_266 : mi_cV pP RX8 266 kX8_goodFrom 2 := ⟨cwX8_goodFrom _ _, pT_mem 636 (by decide +kernel) (by decide +kernel), pT_mem 638 (by decide +kernel) (by decide +kernel), pT_mem 13 (by decide +kernel) (by decide +kernel)⟩
theorem cv_RX8_360 : mi_cV pP RX8 360 kX8_isGood 1 := ⟨cwX8_isGood _ _, pT_mem 640 (by decide +kernel) (by decide +kernel), pT_mem 642 (by decide +kernel) (by decide +kernel), pT_mem 14 (by decide +kernel) (by decide +kernel)⟩
theorem cv_RL_34 : mi_cV pP RL 34 kX8_many 1 := ⟨cwX8_many _ _, pT_mem 645 (by decide +kernel) (by decide +kernel), pT_mem 646 (by decide +kernel) (by decide +kernel), pT_mem 647 (by decide +kernel) (by decide +kernel)⟩
theorem cv_RX8_295 : mi_cV pP RX8 295 kX8_writtenOf 1 := ⟨cwX8_writtenOf _ _, pT_mem 649 (by decide +kernel) (by decide +kernel), pT_mem 651 (by decide +kernel) (by decide +kernel), pT_mem 15 (by decide +kernel) (by decide +kernel)⟩
theorem cv_RL_84 : mi_cV pP RL 84 kX8_wouldTake 2 := ⟨cwX8_wouldTake _ _, pT_mem 654 (by decide +kernel) (by decide +kernel), pT_mem 655 (by decide +kernel) (by decide +kernel), pT_mem 656 (by decide +kernel) (by decide +kernel)⟩
theorem cs_RX8_305 : mi_cS pP RX8 305 kJ9_min_7cf53 2 := ⟨cwJ9_min_7cf53 _ _, pT_mem 659 (by decide +kernel) (by decide +kernel), pT_mem 600 (by decide +kernel) (by decide +kernel)⟩
theorem cv_RX8_310 : mi_cV pP RX8 310 kX2_timeOver 2 := ⟨cwX2_timeOver _ _, pT_mem 660 (by decide +kernel) (by decide +kernel), pT_mem 661 (by decide +kernel) (by decide +kernel), pT_mem 662 (by decide +kernel) (by decide +kernel)⟩
theorem cv_RL_77 : mi_cV pP RL 77 kX8_wouldMend 2 := ⟨cwX8_wouldMend _ _, pT_mem 664 (by decide +kernel) (by decide +kernel), pT_mem 665 (by decide +kernel) (by decide +kernel), pT_mem 666 (by decide +kernel) (by decide +kernel)⟩
theorem cv_RX8_319 : mi_cV pP RX8 319 kX5_stateWithout 2 := ⟨cwX5_stateWithout _ _, pT_mem 670 (by decide +kernel) (by decide +kernel), pT_mem 671 (by decide +kernel) (by decide +kernel), pT_mem 672 (by decide +kernel) (by decide +kernel)⟩
theorem cv_RL_80 : mi_cV pP RL 80 kX8_digest 0 := ⟨cwX8_digest _ _, pT_mem 674 (by decide +kernel) (by decide +kernel), pT_mem 675 (by decide +kernel) (by decide +kernel), pT_mem 676 (by decide +kernel) (by decide +kernel)⟩
theorem cv_RX8_327 : mi_cV pP RX8 327 kX8_many 1 := ⟨cwX8_many _ _, pT_mem 680 (by decide +kernel) (by decide +kernel), pT_mem 646 (by decide +kernel) (by decide +kernel), pT_mem 647 (by decide +kernel) (by decide +kernel)⟩
theorem cv_RX8_330 : mi_cV pP RX8 330 kX8_digestTracks 1 := ⟨cwX8_digestTracks _ _, pT_mem 681 (by decide +kernel) (by decide +kernel), pT_mem 683 (by decide +kernel) (by decide +kernel), pT_mem 16 (by decide +kernel) (by decide +kernel)⟩
theorem cv_RX8_340 : mi_cV pP RX8 340 kX8_ofTrack 2 := ⟨cwX8_ofTrack _ _, pT_mem 685 (by decide +kernel) (by decide +kernel), pT_mem 633 (by decide +kernel) (by decide +kernel), pT_mem 634 (by decide +kernel) (by decide +kernel)⟩
theorem cv_RX8_334 : mi_cV pP RX8 334 kX8_digestSectors 1 := ⟨cwX8_digestSectors _ _, pT_mem 686 (by decide +kernel) (by decide +kernel), pT_mem 688 (by decide +kernel) (by decide +kernel), pT_mem 17 (by decide +kernel) (by decide +kernel)⟩
theorem cv_RX8_343 : mi_cV pP RX8 343 kX8_ofSector 2 := ⟨cwX8_ofSector _ _, pT_mem 690 (by decide +kernel) (by decide +kernel), pT_mem 607 (by decide +kernel) (by decide +kernel), pT_mem 608 (by decide +kernel) (by decide +kernel)⟩
theorem cv_RX8_346 : mi_cV pP RX8 346 kX8_nibbles 2 := ⟨cwX8_nibbles _ _, pT_mem 691 (by decide +kernel) (by decide +kernel), pT_mem 625 (by decide +kernel) (by decide +kernel), pT_mem 626 (by decide +kernel) (by decide +kernel)⟩
theorem cv_RX8_337 : mi_cV pP RX8 337 kX8_digestFiles 1 := ⟨cwX8_digestFiles _ _, pT_mem 692 (by decide +kernel) (by decide +kernel), pT_mem 694 (by decide +kernel) (by decide +kernel), pT_mem 18 (by decide +kernel) (by decide +kernel)⟩
theorem cv_RX8_350 : mi_cV pP RX8 350 kX8_ofFile 3 := ⟨cwX8_ofFile _ _, pT_mem 696 (by decide +kernel) (by decide +kernel), pT_mem 697 (by decide +kernel) (by decide +kernel), pT_mem 698 (by decide +kernel) (by decide +kernel)⟩
theorem cs_RX8_133 : mi_cS pP RX8 133 kX8_checkFile 1 := ⟨cwX8_checkFile _ _, pT_mem 700 (by decide +kernel) (by decide +kernel), pT_mem 701 (by decide +kernel) (by decide +kernel)⟩
theorem cv_RX8_276 : mi_cV pP RX8 276 kX3_tellerOf 2 := ⟨cwX3_tellerOf _ _, pT_mem 706 (by decide +kernel) (by decide +kernel), pT_mem 707 (by decide +kernel) (by decide +kernel), pT_mem 708 (by decide +kernel) (by decide +kernel)⟩
theorem cv_RX8_279 : mi_cV pP RX8 279 kX3_firstOf 2 := ⟨cwX3_firstOf _ _, pT_mem 710 (by decide +kernel) (by decide +kernel), pT_mem 711 (by decide +kernel) (by decide +kernel), pT_mem 712 (by decide +kernel) (by decide +kernel)⟩
theorem cv_RX8_282 : mi_cV pP RX8 282 kX3_lengthOf 2 := ⟨cwX3_lengthOf _ _, pT_mem 714 (by decide +kernel) (by decide +kernel), pT_mem 715 (by decide +kernel) (by decide +kernel), pT_mem 716 (by decide +kernel) (by decide +kernel)⟩
theorem cs_RL_17 : mi_cS pP RL 17 kL_below 2 := ⟨cwL_below _ _, pT_mem 718 (by decide +kernel) (by decide +kernel), pT_mem 719 (by decide +kernel) (by decide +kernel)⟩
theorem cs_RL_9 : mi_cS pP RL 9 kL_cell 2 := ⟨cwL_cell _ _, pT_mem 722 (by decide +kernel) (by decide +kernel), pT_mem 723 (by decide +kernel) (by decide +kernel)⟩
theorem cs_RL_54 : mi_cS pP RL 54 kL_nibbles 2 := ⟨cwL_nibbles _ _, pT_mem 726 (by decide +kernel) (by decide +kernel), pT_mem 727 (by decide +kernel) (by decide +kernel)⟩
theorem cs_RL_72 : mi_cS pP RL 72 kJ9_abs_0f7a4 1 := ⟨cwJ9_abs_0f7a4 _ _, pT_mem 730 (by decide +kernel) (by decide +kernel), pT_mem 491 (by decide +kernel) (by decide +kernel)⟩
theorem ob_i : Jvm.Cond.instanceMethod objectInit ∈ pP.2.1 := pT_mem 43 (by decide +kernel) (by decide +kernel)
theorem ob_c : Jvm.Cond.code objectInit ⟨#[0xb1]⟩ 1 none ∈ pP.2.1 := pT_mem 44 (by decide +kernel) (by decide +kernel)
theorem iz_RX8 : Jvm.Cond.initialized RX8 ∈ pP.2.1 := pT_mem 20 (by decide +kernel) (by decide +kernel)
theorem iz_RX3 : Jvm.Cond.initialized RX3 ∈ pP.2.1 := pT_mem 21 (by decide +kernel) (by decide +kernel)
theorem iz_RX2 : Jvm.Cond.initialized RX2 ∈ pP.2.1 := pT_mem 22 (by decide +kernel) (by decide +kernel)
theorem iz_RX0 : Jvm.Cond.initialized RX0 ∈ pP.2.1 := pT_mem 23 (by decide +kernel) (by decide +kernel)
theorem iz_RX1 : Jvm.Cond.initialized RX1 ∈ pP.2.1 := pT_mem 24 (by decide +kernel) (by decide +kernel)
theorem iz_RX4 : Jvm.Cond.initialized RX4 ∈ pP.2.1 := pT_mem 25 (by decide +kernel) (by decide +kernel)
theorem iz_RX5 : Jvm.Cond.initialized RX5 ∈ pP.2.1 := pT_mem 26 (by decide +kernel) (by decide +kernel)
theorem iz_RX7 : Jvm.Cond.initialized RX7 ∈ pP.2.1 := pT_mem 27 (by decide +kernel) (by decide +kernel)
theorem iz_RX6 : Jvm.Cond.initialized RX6 ∈ pP.2.1 := pT_mem 34 (by decide +kernel) (by decide +kernel)
theorem cl_RL_21 : Jvm.Cond.classLink RL 21 RX8 ∈ pP.2.1 := pT_mem 37 (by decide +kernel) (by decide +kernel)
theorem it_RX8 : Jvm.Cond.instantiable RX8 10 ∈ pP.2.1 := pT_mem 38 (by decide +kernel) (by decide +kernel)
theorem cl_RX8_9 : Jvm.Cond.classLink RX8 9 RX5 ∈ pP.2.1 := pT_mem 45 (by decide +kernel) (by decide +kernel)
theorem cl_RX8_15 : Jvm.Cond.classLink RX8 15 RX7 ∈ pP.2.1 := pT_mem 47 (by decide +kernel) (by decide +kernel)
theorem cl_RX8_21 : Jvm.Cond.classLink RX8 21 RX3 ∈ pP.2.1 := pT_mem 49 (by decide +kernel) (by decide +kernel)
theorem it_RX3 : Jvm.Cond.instantiable RX3 2 ∈ pP.2.1 := pT_mem 50 (by decide +kernel) (by decide +kernel)
theorem cl_RX3_9 : Jvm.Cond.classLink RX3 9 ("[" ++ (FieldType.array .int).toString) ∈ pP.2.1 := pT_mem 55 (by decide +kernel) (by decide +kernel)
theorem ac_int : Jvm.Cond.arrayClass .int ∈ pP.2.1 := pT_mem 64 (by decide +kernel) (by decide +kernel)
theorem cl_RX8_28 : Jvm.Cond.classLink RX8 28 RX2 ∈ pP.2.1 := pT_mem 65 (by decide +kernel) (by decide +kernel)
theorem it_RX2 : Jvm.Cond.instantiable RX2 5 ∈ pP.2.1 := pT_mem 66 (by decide +kernel) (by decide +kernel)
theorem cl_RX8_35 : Jvm.Cond.classLink RX8 35 RX0 ∈ pP.2.1 := pT_mem 92 (by decide +kernel) (by decide +kernel)
theorem it_RX0 : Jvm.Cond.instantiable RX0 2 ∈ pP.2.1 := pT_mem 93 (by decide +kernel) (by decide +kernel)
theorem cl_RX0_7 : Jvm.Cond.classLink RX0 7 RX1 ∈ pP.2.1 := pT_mem 98 (by decide +kernel) (by decide +kernel)
theorem it_RX1 : Jvm.Cond.instantiable RX1 2 ∈ pP.2.1 := pT_mem 99 (by decide +kernel) (by decide +kernel)
theorem cl_RX0_16 : Jvm.Cond.classLink RX0 16 RX4 ∈ pP.2.1 := pT_mem 113 (by decide +kernel) (by decide +kernel)
theorem it_RX4 : Jvm.Cond.instantiable RX4 4 ∈ pP.2.1 := pT_mem 114 (by decide +kernel) (by decide +kernel)
theorem it_RX5 : Jvm.Cond.instantiable RX5 10 ∈ pP.2.1 := pT_mem 145 (by decide +kernel) (by decide +kernel)
theorem cl_RX5_9 : Jvm.Cond.classLink RX5 9 RX1 ∈ pP.2.1 := pT_mem 150 (by decide +kernel) (by decide +kernel)
theorem kc_RX5_32 : Jvm.Cond.constantLong RX5 32 (-1 : Int64) ∈ pP.2.1 := pT_mem 152 (by decide +kernel) (by decide +kernel)
theorem it_RX7 : Jvm.Cond.instantiable RX7 7 ∈ pP.2.1 := pT_mem 191 (by decide +kernel) (by decide +kernel)
theorem ac_byte : Jvm.Cond.arrayClass .byte ∈ pP.2.1 := pT_mem 331 (by decide +kernel) (by decide +kernel)
theorem kc_RX8_95 : Jvm.Cond.constantLong RX8 95 (68719476735 : Int64) ∈ pP.2.1 := pT_mem 385 (by decide +kernel) (by decide +kernel)
theorem kc_RX1_19 : Jvm.Cond.constantLong RX1 19 (15 : Int64) ∈ pP.2.1 := pT_mem 421 (by decide +kernel) (by decide +kernel)
theorem kc_RX1_21 : Jvm.Cond.constantLong RX1 21 (-1 : Int64) ∈ pP.2.1 := pT_mem 422 (by decide +kernel) (by decide +kernel)
theorem kc_RJ6_265 : Jvm.Cond.constant RJ6 265 (1431655765 : Int32) ∈ pP.2.1 := pT_mem 452 (by decide +kernel) (by decide +kernel)
theorem kc_RJ6_266 : Jvm.Cond.constant RJ6 266 (858993459 : Int32) ∈ pP.2.1 := pT_mem 453 (by decide +kernel) (by decide +kernel)
theorem kc_RJ6_267 : Jvm.Cond.constant RJ6 267 (252645135 : Int32) ∈ pP.2.1 := pT_mem 454 (by decide +kernel) (by decide +kernel)
theorem kc_RJ6_264 : Jvm.Cond.constant RJ6 264 (65536 : Int32) ∈ pP.2.1 := pT_mem 458 (by decide +kernel) (by decide +kernel)
theorem kc_RX6_20 : Jvm.Cond.constantDouble RX6 20 (4645040803167600640 : UInt64) ∈ pP.2.1 := pT_mem 533 (by decide +kernel) (by decide +kernel)
theorem kc_RX2_29 : Jvm.Cond.constantDouble RX2 29 (4611686018427387904 : UInt64) ∈ pP.2.1 := pT_mem 580 (by decide +kernel) (by decide +kernel)
theorem kc_RX2_31 : Jvm.Cond.constantDouble RX2 31 (4598175219545276416 : UInt64) ∈ pP.2.1 := pT_mem 581 (by decide +kernel) (by decide +kernel)
theorem kc_RX2_48 : Jvm.Cond.constantDouble RX2 48 (4636033603912859648 : UInt64) ∈ pP.2.1 := pT_mem 585 (by decide +kernel) (by decide +kernel)
theorem kc_RX2_54 : Jvm.Cond.constantDouble RX2 54 (4645040803167600640 : UInt64) ∈ pP.2.1 := pT_mem 589 (by decide +kernel) (by decide +kernel)
theorem kc_RX2_60 : Jvm.Cond.constantDouble RX2 60 (4602678819172646912 : UInt64) ∈ pP.2.1 := pT_mem 590 (by decide +kernel) (by decide +kernel)
theorem kc_RX6_22 : Jvm.Cond.constantFloat RX6 22 (1067450368 : UInt32) ∈ pP.2.1 := pT_mem 594 (by decide +kernel) (by decide +kernel)
theorem kc_RX6_23 : Jvm.Cond.constantFloat RX6 23 (1069547520 : UInt32) ∈ pP.2.1 := pT_mem 595 (by decide +kernel) (by decide +kernel)
theorem kc_RX8_313 : Jvm.Cond.constant RX8 313 (65535 : Int32) ∈ pP.2.1 := pT_mem 668 (by decide +kernel) (by decide +kernel)
theorem kc_RX8_323 : Jvm.Cond.constantLong RX8 323 (9600 : Int64) ∈ pP.2.1 := pT_mem 678 (by decide +kernel) (by decide +kernel)
theorem kc_RX8_325 : Jvm.Cond.constantLong RX8 325 (31 : Int64) ∈ pP.2.1 := pT_mem 679 (by decide +kernel) (by decide +kernel)
theorem kc_RL_7 : Jvm.Cond.constant RL 7 (2147483647 : Int32) ∈ pP.2.1 := pT_mem 721 (by decide +kernel) (by decide +kernel)
theorem kc_RL_8 : Jvm.Cond.constant RL 8 (790386105 : Int32) ∈ pP.2.1 := pT_mem 725 (by decide +kernel) (by decide +kernel)
theorem kc_RL_15 : Jvm.Cond.constantLong RL 15 (4294967295 : Int64) ∈ pP.2.1 := pT_mem 729 (by decide +kernel) (by decide +kernel)
theorem ac_long : Jvm.Cond.arrayClass .long ∈ pP.2.1 := pT_mem 731 (by decide +kernel) (by decide +kernel)
