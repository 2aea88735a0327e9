def pT : List Cond := lw_tbl.filter goodWord
theorem pT_mem {w : Cond} (i : Nat) (h : lw_tbl[i]? = some w) (hg : goodWord w = true) : w ∈ pT := List.mem_filter.mpr ⟨List.mem_of_getElem? h, hg⟩
def pN : List Cond := [(Jvm.Cond.arrayOver (Jvm.ClassFile.FieldType.object "PitHouse$Sector")), (Jvm.Cond.arrayOver (Jvm.ClassFile.FieldType.object "PitHouse$Track")), (Jvm.Cond.methodLinkNest "PitHouse" (23 : Nat) ({ cls := "PitHouse$FileTable", name := "<init>", desc := "()V" } : Jvm.MethodName) "PitHouse"), (Jvm.Cond.arrayOver (Jvm.ClassFile.FieldType.array Jvm.ClassFile.FieldType.int)), (Jvm.Cond.methodLinkNest "PitHouse" (30 : Nat) ({ cls := "PitHouse$Drive", name := "<init>", desc := "()V" } : Jvm.MethodName) "PitHouse"), (Jvm.Cond.fieldLinkNest "PitHouse" (199 : Nat) "PitHouse$Drive" "head" "I" "PitHouse"), (Jvm.Cond.fieldLinkNest "PitHouse" (206 : Nat) "PitHouse$Drive" "clock" "D" "PitHouse"), (Jvm.Cond.fieldLinkNest "PitHouse" (298 : Nat) "PitHouse$Drive" "reads" "I" "PitHouse"), (Jvm.Cond.fieldLinkNest "PitHouse" (182 : Nat) "PitHouse$Drive" "isTrayOpen" "Z" "PitHouse"), (Jvm.Cond.fieldLinkNest "PitHouse" (185 : Nat) "PitHouse$Drive" "refusals" "I" "PitHouse"), (Jvm.Cond.methodLinkNest "PitHouse" (37 : Nat) ({ cls := "PitHouse$Bench", name := "<init>", desc := "()V" } : Jvm.MethodName) "PitHouse"), (Jvm.Cond.methodLinkNest "PitHouse$Bench" (9 : Nat) ({ cls := "PitHouse$Block", name := "<init>", desc := "()V" } : Jvm.MethodName) "PitHouse"), (Jvm.Cond.fieldLinkNest "PitHouse$Sector" (118 : Nat) "PitHouse$Block" "erased" "I" "PitHouse"), (Jvm.Cond.fieldLinkNest "PitHouse" (214 : Nat) "PitHouse$Block" "erased" "I" "PitHouse"), (Jvm.Cond.methodLinkNest "PitHouse$Bench" (18 : Nat) ({ cls := "PitHouse$Marks", name := "<init>", desc := "()V" } : Jvm.MethodName) "PitHouse"), (Jvm.Cond.fieldLinkNest "PitHouse$Sector" (116 : Nat) "PitHouse$Marks" "dsv" "I" "PitHouse"), (Jvm.Cond.fieldLinkNest "PitHouse$Sector" (115 : Nat) "PitHouse$Marks" "turns" "I" "PitHouse"), (Jvm.Cond.fieldLinkNest "PitHouse$Sector" (117 : Nat) "PitHouse$Marks" "farthest" "I" "PitHouse"), (Jvm.Cond.fieldLinkNest "PitHouse$Sector" (101 : Nat) "PitHouse$Bench" "copy" "LPitHouse$Block;" "PitHouse"), (Jvm.Cond.fieldLinkNest "PitHouse" (316 : Nat) "PitHouse$Bench" "copy" "LPitHouse$Block;" "PitHouse"), (Jvm.Cond.fieldLinkNest "PitHouse$Sector" (106 : Nat) "PitHouse$Bench" "marks" "LPitHouse$Marks;" "PitHouse"), (Jvm.Cond.methodLinkNest "PitHouse$Sector" (11 : Nat) ({ cls := "PitHouse$Block", name := "<init>", desc := "()V" } : Jvm.MethodName) "PitHouse"), (Jvm.Cond.fieldLinkNest "PitHouse" (210 : Nat) "PitHouse$Sector" "block" "LPitHouse$Block;" "PitHouse"), (Jvm.Cond.fieldLinkNest "PitHouse" (169 : Nat) "PitHouse$Sector" "isWritten" "Z" "PitHouse"), (Jvm.Cond.fieldLinkNest "PitHouse" (196 : Nat) "PitHouse$Sector" "state" "I" "PitHouse"), (Jvm.Cond.fieldLinkNest "PitHouse" (238 : Nat) "PitHouse$Sector" "mended" "J" "PitHouse"), (Jvm.Cond.fieldLinkNest "PitHouse" (224 : Nat) "PitHouse$Sector" "turns" "I" "PitHouse"), (Jvm.Cond.fieldLinkNest "PitHouse" (227 : Nat) "PitHouse$Sector" "dsv" "I" "PitHouse"), (Jvm.Cond.fieldLinkNest "PitHouse" (230 : Nat) "PitHouse$Sector" "farthest" "I" "PitHouse"), (Jvm.Cond.methodLinkNest "PitHouse" (62 : Nat) ({ cls := "PitHouse$Track", name := "<init>", desc := "()V" } : Jvm.MethodName) "PitHouse"), (Jvm.Cond.fieldLinkNest "PitHouse" (257 : Nat) "PitHouse$Track" "session" "I" "PitHouse"), (Jvm.Cond.fieldLinkNest "PitHouse" (108 : Nat) "PitHouse$Track" "mode" "I" "PitHouse"), (Jvm.Cond.fieldLinkNest "PitHouse" (88 : Nat) "PitHouse$Track" "first" "I" "PitHouse"), (Jvm.Cond.fieldLinkNest "PitHouse" (260 : Nat) "PitHouse$Track" "has" "I" "PitHouse"), (Jvm.Cond.fieldLinkNest "PitHouse" (263 : Nat) "PitHouse$Track" "used" "I" "PitHouse"), (Jvm.Cond.fieldLinkNest "PitHouse" (117 : Nat) "PitHouse$Track" "links" "I" "PitHouse"), (Jvm.Cond.fieldLinkNest "PitHouse" (120 : Nat) "PitHouse$Track" "isClosed" "Z" "PitHouse"), (Jvm.Cond.fieldLinkNest "java/util/ArrayList$Itr" (28 : Nat) "java/util/ArrayList" "size" "I" "java/util/ArrayList")]
theorem pN_ok : ∀ w ∈ pN, (∃ a i b n d h, w = Jvm.Cond.fieldLinkNest a i b n d h) ∨ (∃ a i x h, w = Jvm.Cond.methodLinkNest a i x h) ∨ (∃ C, w = Jvm.Cond.arrayOver (.object C)) ∨ ∃ t, w = Jvm.Cond.arrayOver (.array t) := List.forall_mem_cons.mpr ⟨Or.inr (Or.inr (Or.inl ⟨_, rfl⟩)), List.forall_mem_cons.mpr ⟨Or.inr (Or.inr (Or.inl ⟨_, rfl⟩)), List.forall_mem_cons.mpr ⟨Or.inr (Or.inl ⟨_, _, _, _, rfl⟩), List.forall_mem_cons.mpr ⟨Or.inr (Or.inr (Or.inr ⟨_, rfl⟩)), List.forall_mem_cons.mpr ⟨Or.inr (Or.inl ⟨_, _, _, _, rfl⟩), List.forall_mem_cons.mpr ⟨Or.inl ⟨_, _, _, _, _, _, rfl⟩, List.forall_mem_cons.mpr ⟨Or.inl ⟨_, _, _, _, _, _, rfl⟩, List.forall_mem_cons.mpr ⟨Or.inl ⟨_, _, _, _, _, _, rfl⟩, List.forall_mem_cons.mpr ⟨Or.inl ⟨_, _, _, _, _, _, rfl⟩, List.forall_mem_cons.mpr ⟨Or.inl ⟨_, _, _, _, _, _, rfl⟩, List.forall_mem_cons.mpr ⟨Or.inr (Or.inl ⟨_, _, _, _, rfl⟩), List.forall_mem_cons.mpr ⟨Or.inr (Or.inl ⟨_, _, _, _, rfl⟩), List.forall_mem_cons.mpr ⟨Or.inl ⟨_, _, _, _, _, _, rfl⟩, List.forall_mem_cons.mpr ⟨Or.inl ⟨_, _, _, _, _, _, rfl⟩, List.forall_mem_cons.mpr ⟨Or.inr (Or.inl ⟨_, _, _, _, rfl⟩), List.forall_mem_cons.mpr ⟨Or.inl ⟨_, _, _, _, _, _, rfl⟩, List.forall_mem_cons.mpr ⟨Or.inl ⟨_, _, _, _, _, _, rfl⟩, List.forall_mem_cons.mpr ⟨Or.inl ⟨_, _, _, _, _, _, rfl⟩, List.forall_mem_cons.mpr ⟨Or.inl ⟨_, _, _, _, _, _, rfl⟩, List.forall_mem_cons.mpr ⟨Or.inl ⟨_, _, _, _, _, _, rfl⟩, List.forall_mem_cons.mpr ⟨Or.inl ⟨_, _, _, _, _, _, rfl⟩, List.forall_mem_cons.mpr ⟨Or.inr (Or.inl ⟨_, _, _, _, rfl⟩), List.forall_mem_cons.mpr ⟨Or.inl ⟨_, _, _, _, _, _, rfl⟩, List.forall_mem_cons.mpr ⟨Or.inl ⟨_, _, _, _, _, _, rfl⟩, List.forall_mem_cons.mpr ⟨Or.inl ⟨_, _, _, _, _, _, rfl⟩, List.forall_mem_cons.mpr ⟨Or.inl ⟨_, _, _, _, _, _, rfl⟩, List.forall_mem_cons.mpr ⟨Or.inl ⟨_, _, _, _, _, _, rfl⟩, List.forall_mem_cons.mpr ⟨Or.inl ⟨_, _, _, _, _, _, rfl⟩, List.forall_mem_cons.mpr ⟨Or.inl ⟨_, _, _, _, _, _, rfl⟩, List.forall_mem_cons.mpr ⟨Or.inr (Or.inl ⟨_, _, _, _, rfl⟩), List.forall_mem_cons.mpr ⟨Or.inl ⟨_, _, _, _, _, _, rfl⟩, List.forall_mem_cons.mpr ⟨Or.inl ⟨_, _, _, _, _, _, rfl⟩, List.forall_mem_cons.mpr ⟨Or.inl ⟨_, _, _, _, _, _, rfl⟩, List.forall_mem_cons.mpr ⟨Or.inl ⟨_, _, _, _, _, _, rfl⟩, List.forall_mem_cons.mpr ⟨Or.inl ⟨_, _, _, _, _, _, rfl⟩, List.forall_mem_cons.mpr ⟨Or.inl ⟨_, _, _, _, _, _, rfl⟩, List.forall_mem_cons.mpr ⟨Or.inl ⟨_, _, _, _, _, _, rfl⟩, List.forall_mem_cons.mpr ⟨Or.inl ⟨_, _, _, _, _, _, rfl⟩, fun _ h => absurd h List.not_mem_nil⟩⟩⟩⟩⟩⟩⟩⟩⟩⟩⟩⟩⟩⟩⟩⟩⟩⟩⟩⟩⟩⟩⟩⟩⟩⟩⟩⟩⟩⟩⟩⟩⟩⟩⟩⟩⟩⟩
theorem pN_in : ∀ w ∈ pN, w ∈ lw_tbl := by
  intro w hw
  have h : pN.all (fun w => lw_tbl.contains w) = true := by decide +kernel
  exact List.contains_iff_mem.mp (List.all_eq_true.mp h w hw)
def pC : List vw_C := [(RX8, TX8, 10), (RX0, TX0, 2), (RX1, TX1, 2), (RX2, TX2, 5), (RX3, TX3, 2), (RX4, TX4, 4), (RX5, TX5, 10), (RX7, TX7, 7), (RX7, TX7, 7), (RX9, TX9, 15), ("java/lang/IllegalStateException", fun _ => ("", "", "", false), 0), ("java/lang/IllegalArgumentException", fun _ => ("", "", "", false), 0), ("java/lang/IndexOutOfBoundsException", fun _ => ("", "", "", false), 0), (RJx4a65c, TJx4a65c, 3), (RJx35411, TJx35411, 4)]
def pM : List mi_M := [
  (yX8_init, cX8_init, 2, (none)),
  (yX8_session, cX8_session, 1, (some .int)),
  (yX8_track, cX8_track, 4, (some .int)),
  (yX8_write, cX8_write, 6, (some .int)),
  (yX8_starve, cX8_starve, 3, (some .int)),
  (yX8_close, cX8_close, 4, (some .int)),
  (yX8_end, cX8_end, 1, (some .int)),
  (yX8_file, cX8_file, 5, (some .int)),
  (yX8_scratch, cX8_scratch, 10, (some .int)),
  (yX8_rot, cX8_rot, 5, (some .int)),
  (yX8_tray, cX8_tray, 3, (some .boolean)),
  (yX8_push, cX8_push, 1, (some .int)),
  (yX8_read, cX8_read, 2, (some .int)),
  (yX8_seek, cX8_seek, 2, (some .double)),
  (yX8_clock, cX8_clock, 1, (some .double)),
  (yX8_angle, cX8_angle, 2, (some .double)),
  (yX8_ofSector, cX8_ofSector, 4, (some .int)),
  (yX8_nibbles, cX8_nibbles, 3, (some .long)),
  (yX8_place, cX8_place, 4, (some .int)),
  (yX8_ofTrack, cX8_ofTrack, 4, (some .int)),
  (yX8_ofFile, cX8_ofFile, 7, (some .int)),
  (yX8_play, cX8_play, 3, (some .double)),
  (yX8_many, cX8_many, 2, (some .int)),
  (yX8_wouldTake, cX8_wouldTake, 3, (some .double)),
  (yX8_wouldMend, cX8_wouldMend, 3, (some .int)),
  (yX8_digest, cX8_digest, 4, (some .long)),
  (yX8_digestTracks, cX8_digestTracks, 7, (some .long)),
  (yX8_digestSectors, cX8_digestSectors, 7, (some .long)),
  (yX8_digestFiles, cX8_digestFiles, 8, (some .long)),
  (yX8_isSector, cX8_isSector, 1, (some .boolean)),
  (yX8_checkSector, cX8_checkSector, 1, (none)),
  (yX8_checkFile, cX8_checkFile, 1, (none)),
  (yX8_trackAt, cX8_trackAt, 2, (some (.object "PitHouse$Track"))),
  (yX8_left, cX8_left, 1, (some .int)),
  (yX8_trackOf, cX8_trackOf, 3, (some .int)),
  (yX8_hasOpenTrack, cX8_hasOpenTrack, 2, (some .boolean)),
  (yX8_isGood, cX8_isGood, 2, (some .boolean)),
  (yX8_goodFrom, cX8_goodFrom, 5, (some .int)),
  (yX8_writtenOf, cX8_writtenOf, 4, (some .int)),
  (yX8_sampleBetween, cX8_sampleBetween, 6, (some .float)),
  (yX0_init, cX0_init, 1, (none)),
  (yX1_init, cX1_init, 1, (none)),
  (yX1_valueAt, cX1_valueAt, 2, (some .int)),
  (yX1_isErased, cX1_isErased, 2, (some .boolean)),
  (yX1_put, cX1_put, 3, (none)),
  (yX1_erase, cX1_erase, 3, (none)),
  (yX1_copyFrom, cX1_copyFrom, 2, (none)),
  (yX1_spread, cX1_spread, 4, (none)),
  (yX1_gathered, cX1_gathered, 4, (some .long)),
  (yX1_mend, cX1_mend, 4, (none)),
  (yX1_isEven, cX1_isEven, 2, (some .boolean)),
  (yX1_fillErased, cX1_fillErased, 5, (none)),
  (yX1_onlyOddOf, cX1_onlyOddOf, 4, (some .int)),
  (yX1_parityOf, cX1_parityOf, 7, (some .int)),
  (yX1_placeOf, cX1_placeOf, 1, (some .int)),
  (yX2_init, cX2_init, 1, (none)),
  (yX2_seekTime, cX2_seekTime, 6, (some .double)),
  (yX2_restOfTurn, cX2_restOfTurn, 4, (some .double)),
  (yX2_clockBehind, cX2_clockBehind, 6, (some .double)),
  (yX2_headBehind, cX2_headBehind, 1, (some .int)),
  (yX2_passOver, cX2_passOver, 2, (none)),
  (yX2_timeOver, cX2_timeOver, 7, (some .double)),
  (yX3_init, cX3_init, 1, (none)),
  (yX3_tell, cX3_tell, 5, (none)),
  (yX3_tellerOf, cX3_tellerOf, 4, (some .int)),
  (yX3_firstOf, cX3_firstOf, 3, (some .int)),
  (yX3_lengthOf, cX3_lengthOf, 3, (some .int)),
  (yX4_init, cX4_init, 1, (none)),
  (yX4_mark, cX4_mark, 5, (none)),
  (yX4_isJoined, cX4_isJoined, 3, (some .boolean)),
  (yX4_dsvBehind, cX4_dsvBehind, 5, (some .int)),
  (yX4_putBits, cX4_putBits, 3, (none)),
  (yX5_init, cX5_init, 2, (none)),
  (yX5_fillWith, cX5_fillWith, 5, (none)),
  (yX5_eraseColumn, cX5_eraseColumn, 6, (none)),
  (yX5_makeWrong, cX5_makeWrong, 4, (some .boolean)),
  (yX5_raw, cX5_raw, 1, (some .long)),
  (yX5_sample, cX5_sample, 3, (some .float)),
  (yX5_stateWithout, cX5_stateWithout, 3, (some .int)),
  (yX5_reckon, cX5_reckon, 2, (none)),
  (yX5_judged, cX5_judged, 3, (some .int)),
  (yX5_mixed, cX5_mixed, 7, (some .long)),
  (yX5_sumOf, cX5_sumOf, 4, (some .int)),
  (yX5_nibbleOf, cX5_nibbleOf, 3, (some .int)),
  (yX6_zoneOf, cX6_zoneOf, 1, (some .int)),
  (yX6_turnOf, cX6_turnOf, 2, (some .int)),
  (yX6_angleOf, cX6_angleOf, 3, (some .double)),
  (yX6_speedOf, cX6_speedOf, 2, (some .float)),
  (yX6_positionOf, cX6_positionOf, 3, (some .int)),
  (yX7_init, cX7_init, 1, (none)),
  (yX7_reserve, cX7_reserve, 5, (none)),
  (yX7_behind, cX7_behind, 1, (some .int)),
  (yX7_holds, cX7_holds, 2, (some .boolean)),
  (yX7_hasRoom, cX7_hasRoom, 1, (some .boolean)),
  (yX7_takeNext, cX7_takeNext, 1, (some .int)),
  (yX7_giveBack, cX7_giveBack, 2, (some .int)),
  (yX9_init, cX9_init, 2, (none)),
  (yX9_thrown, cX9_thrown, 1, (some .int)),
  (yX9_refuse, cX9_refuse, 3, (some .boolean)),
  (yX9_start, cX9_start, 3, (some .boolean)),
  (yX9_isIn, cX9_isIn, 3, (some .boolean)),
  (yX9_one, cX9_one, 1, (some .int)),
  (yX9_isNoTrack, cX9_isNoTrack, 2, (some .boolean)),
  (yX9_isNoSector, cX9_isNoSector, 1, (some .boolean)),
  (yX9_mask, cX9_mask, 4, (some .int)),
  (yX9_placeOf, cX9_placeOf, 1, (some .int)),
  (yX9_blockOf, cX9_blockOf, 5, (some (.array .int))),
  (yX9_nibblesOf, cX9_nibblesOf, 5, (some .long)),
  (yX9_sumOf, cX9_sumOf, 4, (some .int)),
  (yX9_at, cX9_at, 2, (some .int)),
  (yX9_parity, cX9_parity, 4, (some .int)),
  (yX9_fill, cX9_fill, 6, (some .boolean)),
  (yX9_mended, cX9_mended, 8, (some (.array .int))),
  (yX9_worth, cX9_worth, 6, (some .int)),
  (yX9_worth_, cX9_worth_, 2, (some .int)),
  (yX9_isGood, cX9_isGood, 2, (some .boolean)),
  (yX9_bit, cX9_bit, 2, (none)),
  (yX9_after, cX9_after, 5, (some (.array .int))),
  (yX9_marks, cX9_marks, 7, (some (.array .int))),
  (yX9_session, cX9_session, 1, (some .int)),
  (yX9_track, cX9_track, 5, (some .int)),
  (yX9_isDone, cX9_isDone, 3, (some .boolean)),
  (yX9_write, cX9_write, 6, (some .int)),
  (yX9_starve, cX9_starve, 3, (some .int)),
  (yX9_close, cX9_close, 5, (some .int)),
  (yX9_end, cX9_end, 4, (some .int)),
  (yX9_isNoFile, cX9_isNoFile, 2, (some .boolean)),
  (yX9_file, cX9_file, 6, (some .int)),
  (yX9_turnOf, cX9_turnOf, 1, (some .int)),
  (yX9_angleOf, cX9_angleOf, 3, (some .double)),
  (yX9_scratch, cX9_scratch, 8, (some .int)),
  (yX9_rot, cX9_rot, 5, (some .int)),
  (yX9_tray, cX9_tray, 3, (some .boolean)),
  (yX9_push, cX9_push, 1, (some .int)),
  (yX9_seekFrom, cX9_seekFrom, 6, (some .double)),
  (yX9_readOf, cX9_readOf, 2, (some .double)),
  (yX9_behind, cX9_behind, 1, (some .int)),
  (yX9_read, cX9_read, 2, (some .int)),
  (yX9_seek, cX9_seek, 2, (some .double)),
  (yX9_clock, cX9_clock, 1, (some .double)),
  (yX9_angle, cX9_angle, 2, (some .double)),
  (yX9_toldOfSector, cX9_toldOfSector, 8, (some .int)),
  (yX9_ofSector, cX9_ofSector, 3, (some .int)),
  (yX9_nibblesAt, cX9_nibblesAt, 4, (some .long)),
  (yX9_nibbles, cX9_nibbles, 3, (some .long)),
  (yX9_place, cX9_place, 3, (some .int)),
  (yX9_toldOfTrack, cX9_toldOfTrack, 6, (some .int)),
  (yX9_ofTrack, cX9_ofTrack, 3, (some .int)),
  (yX9_toldOfFile, cX9_toldOfFile, 7, (some .int)),
  (yX9_ofFile, cX9_ofFile, 4, (some .int)),
  (yX9_sample, cX9_sample, 6, (some .float)),
  (yX9_isHeard, cX9_isHeard, 3, (some .boolean)),
  (yX9_play, cX9_play, 5, (some .double)),
  (yX9_told, cX9_told, 5, (some .int)),
  (yX9_many, cX9_many, 2, (some .int)),
  (yX9_wouldTake, cX9_wouldTake, 7, (some .double)),
  (yX9_wouldMend, cX9_wouldMend, 5, (some .int)),
  (yX9_add, cX9_add, 4, (some .long)),
  (yX9_digest, cX9_digest, 6, (some .long)),
  (yJ6_bitCount_0f7a4, cJ6_bitCount_0f7a4, 1, (some .int)),
  (yJ6_numberOfTrailingZeros_0f7a4, cJ6_numberOfTrailingZeros_0f7a4, 2, (some .int)),
  (yJ9_abs_0f7a4, cJ9_abs_0f7a4, 1, (some .int)),
  (yJ9_max_7cf53, cJ9_max_7cf53, 2, (some .int)),
  (yJ9_min_7cf53, cJ9_min_7cf53, 2, (some .int)),
  (yJxa1e45_init_da8c8, cJxa1e45_init_da8c8, 1, (none)),
  (yJxc12de_init_da8c8, cJxc12de_init_da8c8, 1, (none)),
  (yJx4a65c_init_da8c8, cJx4a65c_init_da8c8, 1, (none)),
  (yJx4a65c_size_8abf5, cJx4a65c_size_8abf5, 1, (some .int)),
  (yJx4a65c_iterator_32c93, cJx4a65c_iterator_32c93, 1, (some (.object "java/util/Iterator"))),
  (yJx35411_init_45d68, cJx35411_init_45d68, 2, (none)),
  (yJx35411_hasNext_aae02, cJx35411_hasNext_aae02, 1, (some .boolean)),
  (yL_session, cL_session, 3, (some .int)),
  (yL_track, cL_track, 5, (some .int)),
  (yL_write, cL_write, 6, (some .int)),
  (yL_starve, cL_starve, 4, (some .int)),
  (yL_close, cL_close, 4, (some .int)),
  (yL_end, cL_end, 3, (some .int)),
  (yL_file, cL_file, 6, (some .int)),
  (yL_scratch, cL_scratch, 7, (some .int)),
  (yL_rot, cL_rot, 4, (some .int)),
  (yL_read, cL_read, 4, (some .int)),
  (yL_seek, cL_seek, 4, (some .int)),
  (yL_angle, cL_angle, 4, (some .int)),
  (yL_ofSector, cL_ofSector, 5, (some .int)),
  (yL_nibbles, cL_nibbles, 5, (some .int)),
  (yL_place, cL_place, 5, (some .int)),
  (yL_ofTrack, cL_ofTrack, 5, (some .int)),
  (yL_ofFile, cL_ofFile, 6, (some .int)),
  (yL_play, cL_play, 4, (some .int)),
  (yL_many, cL_many, 4, (some .int)),
  (yL_wouldTake, cL_wouldTake, 5, (some .int)),
  (yL_wouldMend, cL_wouldMend, 5, (some .int)),
  (yL_law, cL_law, 10, (some .boolean))]
def pA : List FieldType := [.int, .long, .double, .array .int, .object RX5, .object RX7]
def pL : List (String × String × String × Nat) := [(RX1, "LINE_SETS", "[I", 1), (RX6, "ZONE_SECTORS", "[I", 2), (RX6, "ZONE_FIRSTS", "[I", 3), (RX4, "WORDS", "[I", 4), (RJx4a65c, "DEFAULTCAPACITY_EMPTY_ELEMENTDATA", "[Ljava/lang/Object;", 5)]
def pHL : List (List (Nat × Nat × Nat × Nat)) := [[(0, 8, 11, 13)], [(0, 10, 13, 19), (0, 10, 17, 13)], [(0, 11, 14, 25), (0, 11, 18, 19), (0, 11, 22, 13)], [(0, 9, 12, 25), (0, 9, 15, 13)], [(0, 9, 12, 25), (0, 9, 15, 13)], [(0, 8, 11, 13)], [(0, 12, 15, 25), (0, 12, 19, 19), (0, 12, 23, 13)], [(0, 14, 17, 19)], [(0, 9, 12, 19)], [(0, 9, 12, 25), (0, 9, 15, 13)], [(0, 8, 11, 25)], [(0, 8, 11, 25)], [(0, 10, 13, 25), (0, 10, 17, 19)], [(0, 9, 12, 25)], [(0, 10, 13, 25)], [(0, 10, 13, 25), (0, 10, 17, 19)], [(0, 12, 15, 25), (0, 12, 19, 19)], [(0, 8, 11, 25), (0, 8, 14, 19)], [(0, 9, 12, 19)], [(0, 9, 12, 25), (0, 9, 16, 19)], [(0, 10, 13, 25), (0, 10, 17, 19)]]
def pH : Nat → List (Nat × Nat × Nat × Nat) := fun k => if k < 171 then [] else pHL.getD (k - 171) []
def pS : List (Nat × String) := [(301, "not 0 to 12"), (358, "no such TRACK"), (270, "not 0 to 7"), (354, "no such SECTOR"), (236, "not 0 to 8"), (356, "no such FILE"), (272, "no such SESSION"), (274, "not 0 to 2"), (69, "no SESSION can be opened"), (76, "no such mode, or not 1 to 40 SECTORS"), (79, "no TRACK can be opened"), (97, "not nine NIBBLES"), (103, "the TRACK is CLOSED or full"), (115, "the TRACK is CLOSED or full, or there is no CALIBRATION"), (123, "the TRACK is CLOSED"), (131, "no SESSION can be CLOSED"), (140, "no such SECTOR, or not 1 to 20 SECTORS"), (149, "the FILE is not in one DATA TRACK whole"), (151, "no SESSION is open"), (156, "no such turns"), (158, "no such angles"), (176, "not 0 to 999"), (191, "the TRAY is open"), (248, "no such PLACE"), (285, "not of a SOUND TRACK"), (303, "not 1 to 40 SECTORS"), (314, "no set of PLACES")]
def pE : List Cond := [.castable "java/lang/IllegalStateException" "java/lang/IllegalStateException", .castable "java/lang/IllegalArgumentException" "java/lang/IllegalArgumentException", .castable "java/lang/IndexOutOfBoundsException" "java/lang/IndexOutOfBoundsException", .declares ⟨"java/lang/RuntimeException", "<init>", "(Ljava/lang/String;)V"⟩, .declares ⟨"java/lang/Exception", "<init>", "(Ljava/lang/String;)V"⟩, .declares ⟨"java/lang/Throwable", "<init>", "(Ljava/lang/String;)V"⟩]
theorem pE_moved {s U : State} (hW : s.WarmedH U.vm) (h : ∀ w ∈ pE, va_Nw w s) : ∀ w ∈ pE, va_Nw w U := by
  intro w hw
  have h0 := h w hw
  simp only [pE, List.mem_cons, List.not_mem_nil, or_false] at hw
  rcases hw with rfl | rfl | rfl | rfl | rfl | rfl
  · exact va_Nw.warmC hW h0
  · exact va_Nw.warmC hW h0
  · exact va_Nw.warmC hW h0
  · exact va_tabs rfl (rfl : (s.setVm U.vm).vm = U.vm) (by rw [Cond.declares_setVm hW.alike]; exact h0)
  · exact va_tabs rfl (rfl : (s.setVm U.vm).vm = U.vm) (by rw [Cond.declares_setVm hW.alike]; exact h0)
  · exact va_tabs rfl (rfl : (s.setVm U.vm).vm = U.vm) (by rw [Cond.declares_setVm hW.alike]; exact h0)
def pF : MethodName := ⟨"java/util/Iterator", "hasNext", "()Z"⟩
def pK : Nat → State → Heap → Prop := fun b0 U H => (vx_Zq Bundle.tN "UNASSIGNED_STACK" Bundle.steD (fun q => b0 ≤ q) U H ∧ vx_Zq Bundle.tN "SUPPRESSED_SENTINEL" Bundle.listD (fun q => b0 ≤ q) U H) ∧ (∀ q ∈ pS, ∃ sa : Nat, vk_R RX8 q.1 q.2 sa U) ∧
  va_Nc "java/lang/IllegalArgumentException" "java/lang/IndexOutOfBoundsException" U ∧ va_Nc "java/lang/IllegalStateException" "java/lang/IndexOutOfBoundsException" U ∧ va_Nc "java/lang/IllegalStateException" "java/lang/IllegalArgumentException" U ∧ (∀ w ∈ pE, va_Nw w U) ∧ va_Fw RJx35411 pF yJx35411_hasNext_aae02 U
def pP : mi_P := (pC, pT, pN, fun k => pM.getD k (⟨"", "", ""⟩, ⟨#[]⟩, 0, none), pA, 6, pL, pH, pK)
theorem pP_ok : mi_ok pP := ⟨fun _ h => good_of_word (List.mem_filter.mp h).2, pN_ok, fun b0 s U H hW h => ⟨⟨vx_Zq.moved hW.alike h.1.1, vx_Zq.moved hW.alike h.1.2⟩, fun q hq => (h.2.1 q hq).elim fun sa hs => ⟨sa, vk_R.warm hW hs⟩, va_Nc.moved hW.alike h.2.2.1, va_Nc.moved hW.alike h.2.2.2.1, va_Nc.moved hW.alike h.2.2.2.2.1, pE_moved hW h.2.2.2.2.2.1, va_Fw.moved (by decide) hW.alike h.2.2.2.2.2.2⟩, fun b0 U H H1 hq h => ⟨⟨vx_Zq.kept h.1.1 hq, vx_Zq.kept h.1.2 hq⟩, h.2⟩⟩
abbrev kX8_init : Nat := 0
abbrev kX8_session : Nat := 1
abbrev kX8_track : Nat := 2
abbrev kX8_write : Nat := 3
abbrev kX8_starve : Nat := 4
abbrev kX8_close : Nat := 5
abbrev kX8_end : Nat := 6
abbrev kX8_file : Nat := 7
abbrev kX8_scratch : Nat := 8
abbrev kX8_rot : Nat := 9
abbrev kX8_tray : Nat := 10
abbrev kX8_push : Nat := 11
abbrev kX8_read : Nat := 12
abbrev kX8_seek : Nat := 13
abbrev kX8_clock : Nat := 14
abbrev kX8_angle : Nat := 15
abbrev kX8_ofSector : Nat := 16
abbrev kX8_nibbles : Nat := 17
abbrev kX8_place : Nat := 18
abbrev kX8_ofTrack : Nat := 19
abbrev kX8_ofFile : Nat := 20
abbrev kX8_play : Nat := 21
abbrev kX8_many : Nat := 22
abbrev kX8_wouldTake : Nat := 23
abbrev kX8_wouldMend : Nat := 24
abbrev kX8_digest : Nat := 25
abbrev kX8_digestTracks : Nat := 26
abbrev kX8_digestSectors : Nat := 27
abbrev kX8_digestFiles : Nat := 28
abbrev kX8_isSector : Nat := 29
abbrev kX8_checkSector : Nat := 30
abbrev kX8_checkFile : Nat := 31
abbrev kX8_trackAt : Nat := 32
abbrev kX8_left : Nat := 33
abbrev kX8_trackOf : Nat := 34
abbrev kX8_hasOpenTrack : Nat := 35
abbrev kX8_isGood : Nat := 36
abbrev kX8_goodFrom : Nat := 37
abbrev kX8_writtenOf : Nat := 38
abbrev kX8_sampleBetween : Nat := 39
abbrev kX0_init : Nat := 40
abbrev kX1_init : Nat := 41
abbrev kX1_valueAt : Nat := 42
abbrev kX1_isErased : Nat := 43
abbrev kX1_put : Nat := 44
abbrev kX1_erase : Nat := 45
abbrev kX1_copyFrom : Nat := 46
abbrev kX1_spread : Nat := 47
abbrev kX1_gathered : Nat := 48
abbrev kX1_mend : Nat := 49
abbrev kX1_isEven : Nat := 50
abbrev kX1_fillErased : Nat := 51
abbrev kX1_onlyOddOf : Nat := 52
abbrev kX1_parityOf : Nat := 53
abbrev kX1_placeOf : Nat := 54
abbrev kX2_init : Nat := 55
abbrev kX2_seekTime : Nat := 56
abbrev kX2_restOfTurn : Nat := 57
abbrev kX2_clockBehind : Nat := 58
abbrev kX2_headBehind : Nat := 59
abbrev kX2_passOver : Nat := 60
abbrev kX2_timeOver : Nat := 61
abbrev kX3_init : Nat := 62
abbrev kX3_tell : Nat := 63
abbrev kX3_tellerOf : Nat := 64
abbrev kX3_firstOf : Nat := 65
abbrev kX3_lengthOf : Nat := 66
abbrev kX4_init : Nat := 67
abbrev kX4_mark : Nat := 68
abbrev kX4_isJoined : Nat := 69
abbrev kX4_dsvBehind : Nat := 70
abbrev kX4_putBits : Nat := 71
abbrev kX5_init : Nat := 72
abbrev kX5_fillWith : Nat := 73
abbrev kX5_eraseColumn : Nat := 74
abbrev kX5_makeWrong : Nat := 75
abbrev kX5_raw : Nat := 76
abbrev kX5_sample : Nat := 77
abbrev kX5_stateWithout : Nat := 78
abbrev kX5_reckon : Nat := 79
abbrev kX5_judged : Nat := 80
abbrev kX5_mixed : Nat := 81
abbrev kX5_sumOf : Nat := 82
abbrev kX5_nibbleOf : Nat := 83
abbrev kX6_zoneOf : Nat := 84
abbrev kX6_turnOf : Nat := 85
abbrev kX6_angleOf : Nat := 86
abbrev kX6_speedOf : Nat := 87
abbrev kX6_positionOf : Nat := 88
abbrev kX7_init : Nat := 89
abbrev kX7_reserve : Nat := 90
abbrev kX7_behind : Nat := 91
abbrev kX7_holds : Nat := 92
abbrev kX7_hasRoom : Nat := 93
abbrev kX7_takeNext : Nat := 94
abbrev kX7_giveBack : Nat := 95
abbrev kX9_init : Nat := 96
abbrev kX9_thrown : Nat := 97
abbrev kX9_refuse : Nat := 98
abbrev kX9_start : Nat := 99
abbrev kX9_isIn : Nat := 100
abbrev kX9_one : Nat := 101
abbrev kX9_isNoTrack : Nat := 102
abbrev kX9_isNoSector : Nat := 103
abbrev kX9_mask : Nat := 104
abbrev kX9_placeOf : Nat := 105
abbrev kX9_blockOf : Nat := 106
abbrev kX9_nibblesOf : Nat := 107
abbrev kX9_sumOf : Nat := 108
abbrev kX9_at : Nat := 109
abbrev kX9_parity : Nat := 110
abbrev kX9_fill : Nat := 111
abbrev kX9_mended : Nat := 112
abbrev kX9_worth : Nat := 113
abbrev kX9_worth_ : Nat := 114
abbrev kX9_isGood : Nat := 115
abbrev kX9_bit : Nat := 116
abbrev kX9_after : Nat := 117
abbrev kX9_marks : Nat := 118
abbrev kX9_session : Nat := 119
abbrev kX9_track : Nat := 120
abbrev kX9_isDone : Nat := 121
abbrev kX9_write : Nat := 122
abbrev kX9_starve : Nat := 123
abbrev kX9_close : Nat := 124
abbrev kX9_end : Nat := 125
abbrev kX9_isNoFile : Nat := 126
abbrev kX9_file : Nat := 127
abbrev kX9_turnOf : Nat := 128
abbrev kX9_angleOf : Nat := 129
abbrev kX9_scratch : Nat := 130
abbrev kX9_rot : Nat := 131
abbrev kX9_tray : Nat := 132
abbrev kX9_push : Nat := 133
abbrev kX9_seekFrom : Nat := 134
abbrev kX9_readOf : Nat := 135
abbrev kX9_behind : Nat := 136
abbrev kX9_read : Nat := 137
abbrev kX9_seek : Nat := 138
abbrev kX9_clock : Nat := 139
abbrev kX9_angle : Nat := 140
abbrev kX9_toldOfSector : Nat := 141
abbrev kX9_ofSector : Nat := 142
abbrev kX9_nibblesAt : Nat := 143
abbrev kX9_nibbles : Nat := 144
abbrev kX9_place : Nat := 145
abbrev kX9_toldOfTrack : Nat := 146
abbrev kX9_ofTrack : Nat := 147
abbrev kX9_toldOfFile : Nat := 148
abbrev kX9_ofFile : Nat := 149
abbrev kX9_sample : Nat := 150
abbrev kX9_isHeard : Nat := 151
abbrev kX9_play : Nat := 152
abbrev kX9_told : Nat := 153
abbrev kX9_many : Nat := 154
abbrev kX9_wouldTake : Nat := 155
abbrev kX9_wouldMend : Nat := 156
abbrev kX9_add : Nat := 157
abbrev kX9_digest : Nat := 158
abbrev kJ6_bitCount_0f7a4 : Nat := 159
abbrev kJ6_numberOfTrailingZeros_0f7a4 : Nat := 160
abbrev kJ9_abs_0f7a4 : Nat := 161
abbrev kJ9_max_7cf53 : Nat := 162
abbrev kJ9_min_7cf53 : Nat := 163
abbrev kJxa1e45_init_da8c8 : Nat := 164
abbrev kJxc12de_init_da8c8 : Nat := 165
abbrev kJx4a65c_init_da8c8 : Nat := 166
abbrev kJx4a65c_size_8abf5 : Nat := 167
abbrev kJx4a65c_iterator_32c93 : Nat := 168
abbrev kJx35411_init_45d68 : Nat := 169
abbrev kJx35411_hasNext_aae02 : Nat := 170
abbrev kL_session : Nat := 171
abbrev kL_track : Nat := 172
abbrev kL_write : Nat := 173
abbrev kL_starve : Nat := 174
abbrev kL_close : Nat := 175
abbrev kL_end : Nat := 176
abbrev kL_file : Nat := 177
abbrev kL_scratch : Nat := 178
abbrev kL_rot : Nat := 179
abbrev kL_read : Nat := 180
abbrev kL_seek : Nat := 181
abbrev kL_angle : Nat := 182
abbrev kL_ofSector : Nat := 183
abbrev kL_nibbles : Nat := 184
abbrev kL_place : Nat := 185
abbrev kL_ofTrack : Nat := 186
abbrev kL_ofFile : Nat := 187
abbrev kL_play : Nat := 188
abbrev kL_many : Nat := 189
abbrev kL_wouldTake : Nat := 190
abbrev kL_wouldMend : Nat := 191
abbrev kL_law : Nat := 192
theorem inX8 : ∀ w ∈ u_ws RX8 TX8 10, w ∈ pT := by
  intro w hw
  have h : (u_ws RX8 TX8 10).all (fun w => lw_tbl.contains w && goodWord w) = true := by decide +kernel
  have h2 := List.all_eq_true.mp h w hw
  rw [Bool.and_eq_true] at h2
  exact List.mem_filter.mpr ⟨List.contains_iff_mem.mp h2.1, h2.2⟩
theorem cfX8 : mi_cf pP 0 RX8 TX8 10 tyX8 := ⟨rfl, inX8, tyX8_ok, nmX8⟩
theorem inX0 : ∀ w ∈ u_ws RX0 TX0 2, w ∈ pT := by
  intro w hw
  have h : (u_ws RX0 TX0 2).all (fun w => lw_tbl.contains w && goodWord w) = true := by decide +kernel
  have h2 := List.all_eq_true.mp h w hw
  rw [Bool.and_eq_true] at h2
  exact List.mem_filter.mpr ⟨List.contains_iff_mem.mp h2.1, h2.2⟩
theorem cfX0 : mi_cf pP 1 RX0 TX0 2 tyX0 := ⟨rfl, inX0, tyX0_ok, nmX0⟩
theorem inX1 : ∀ w ∈ u_ws RX1 TX1 2, w ∈ pT := by
  intro w hw
  have h : (u_ws RX1 TX1 2).all (fun w => lw_tbl.contains w && goodWord w) = true := by decide +kernel
  have h2 := List.all_eq_true.mp h w hw
  rw [Bool.and_eq_true] at h2
  exact List.mem_filter.mpr ⟨List.contains_iff_mem.mp h2.1, h2.2⟩
theorem cfX1 : mi_cf pP 2 RX1 TX1 2 tyX1 := ⟨rfl, inX1, tyX1_ok, nmX1⟩
theorem inX2 : ∀ w ∈ u_ws RX2 TX2 5, w ∈ pT := by
  intro w hw
  have h : (u_ws RX2 TX2 5).all (fun w => lw_tbl.contains w && goodWord w) = true := by decide +kernel
  have h2 := List.all_eq_true.mp h w hw
  rw [Bool.and_eq_true] at h2
  exact List.mem_filter.mpr ⟨List.contains_iff_mem.mp h2.1, h2.2⟩
theorem cfX2 : mi_cf pP 3 RX2 TX2 5 tyX2 := ⟨rfl, inX2, tyX2_ok, nmX2⟩
theorem inX3 : ∀ w ∈ u_ws RX3 TX3 2, w ∈ pT := by
  intro w hw
  have h : (u_ws RX3 TX3 2).all (fun w => lw_tbl.contains w && goodWord w) = true := by decide +kernel
  have h2 := List.all_eq_true.mp h w hw
  rw [Bool.and_eq_true] at h2
  exact List.mem_filter.mpr ⟨List.contains_iff_mem.mp h2.1, h2.2⟩
theorem cfX3 : mi_cf pP 4 RX3 TX3 2 tyX3 := ⟨rfl, inX3, tyX3_ok, nmX3⟩
theorem inX4 : ∀ w ∈ u_ws RX4 TX4 4, w ∈ pT := by
  intro w hw
  have h : (u_ws RX4 TX4 4).all (fun w => lw_tbl.contains w && goodWord w) = true := by decide +kernel
  have h2 := List.all_eq_true.mp h w hw
  rw [Bool.and_eq_true] at h2
  exact List.mem_filter.mpr ⟨List.contains_iff_mem.mp h2.1, h2.2⟩
theorem cfX4 : mi_cf pP 5 RX4 TX4 4 tyX4 := ⟨rfl, inX4, tyX4_ok, nmX4⟩
theorem inX5 : ∀ w ∈ u_ws RX5 TX5 10, w ∈ pT := by
  intro w hw
  have h : (u_ws RX5 TX5 10).all (fun w => lw_tbl.contains w && goodWord w) = true := by decide +kernel
  have h2 := List.all_eq_true.mp h w hw
  rw [Bool.and_eq_true] at h2
  exact List.mem_filter.mpr ⟨List.contains_iff_mem.mp h2.1, h2.2⟩
theorem cfX5 : mi_cf pP 6 RX5 TX5 10 tyX5 := ⟨rfl, inX5, tyX5_ok, nmX5⟩
theorem inX7 : ∀ w ∈ u_ws RX7 TX7 7, w ∈ pT := by
  intro w hw
  have h : (u_ws RX7 TX7 7).all (fun w => lw_tbl.contains w && goodWord w) = true := by decide +kernel
  have h2 := List.all_eq_true.mp h w hw
  rw [Bool.and_eq_true] at h2
  exact List.mem_filter.mpr ⟨List.contains_iff_mem.mp h2.1, h2.2⟩
theorem cfX7 : mi_cf pP 8 RX7 TX7 7 tyX7 := ⟨rfl, inX7, tyX7_ok, nmX7⟩
theorem inX9 : ∀ w ∈ u_ws RX9 TX9 15, w ∈ pT := by
  intro w hw
  have h : (u_ws RX9 TX9 15).all (fun w => lw_tbl.contains w && goodWord w) = true := by decide +kernel
  have h2 := List.all_eq_true.mp h w hw
  rw [Bool.and_eq_true] at h2
  exact List.mem_filter.mpr ⟨List.contains_iff_mem.mp h2.1, h2.2⟩
theorem cfX9 : mi_cf pP 9 RX9 TX9 15 tyX9 := ⟨rfl, inX9, tyX9_ok, nmX9⟩
theorem inJx4a65c : ∀ w ∈ u_ws RJx4a65c TJx4a65c 3, w ∈ pT := by
  intro w hw
  have h : (u_ws RJx4a65c TJx4a65c 3).all (fun w => lw_tbl.contains w && goodWord w) = true := by decide +kernel
  have h2 := List.all_eq_true.mp h w hw
  rw [Bool.and_eq_true] at h2
  exact List.mem_filter.mpr ⟨List.contains_iff_mem.mp h2.1, h2.2⟩
theorem cfJx4a65c : mi_cf pP 13 RJx4a65c TJx4a65c 3 tyJx4a65c := ⟨rfl, inJx4a65c, tyJx4a65c_ok, nmJx4a65c⟩
theorem inJx35411 : ∀ w ∈ u_ws RJx35411 TJx35411 4, w ∈ pT := by
  intro w hw
  have h : (u_ws RJx35411 TJx35411 4).all (fun w => lw_tbl.contains w && goodWord w) = true := by decide +kernel
  have h2 := List.all_eq_true.mp h w hw
  rw [Bool.and_eq_true] at h2
  exact List.mem_filter.mpr ⟨List.contains_iff_mem.mp h2.1, h2.2⟩
theorem cfJx35411 : mi_cf pP 14 RJx35411 TJx35411 4 tyJx35411 := ⟨rfl, inJx35411, tyJx35411_ok, nmJx35411⟩
theorem fd_RX3_11 : mi_fd pP RX3 11 4 0 true (tyX3 0) := ⟨RX3, TX3, 2, tyX3, cfX3, by decide, rfl, rfl, Or.inl (pT_mem 87 (by decide +kernel) (by decide +kernel)), fun _ => ⟨rfl, pT_mem 87 (by decide +kernel) (by decide +kernel)⟩⟩
theorem fg_RX3_11 : mi_fg pP RX3 11 4 0 := ⟨RX3, TX3, 2, tyX3, cfX3, by decide, Or.inl (pT_mem 87 (by decide +kernel) (by decide +kernel))⟩
theorem fd_RX3_16 : mi_fd pP RX3 16 4 1 true (tyX3 1) := ⟨RX3, TX3, 2, tyX3, cfX3, by decide, rfl, rfl, Or.inl (pT_mem 88 (by decide +kernel) (by decide +kernel)), fun _ => ⟨rfl, pT_mem 88 (by decide +kernel) (by decide +kernel)⟩⟩
theorem fg_RX3_16 : mi_fg pP RX3 16 4 1 := ⟨RX3, TX3, 2, tyX3, cfX3, by decide, Or.inl (pT_mem 88 (by decide +kernel) (by decide +kernel))⟩
theorem fd_RX2_9 : mi_fd pP RX2 9 3 0 false (tyX2 0) := ⟨RX2, TX2, 5, tyX2, cfX2, by decide, rfl, rfl, Or.inl (pT_mem 101 (by decide +kernel) (by decide +kernel)), fun q => by cases q⟩
theorem fg_RX2_9 : mi_fg pP RX2 9 3 0 := ⟨RX2, TX2, 5, tyX2, cfX2, by decide, Or.inl (pT_mem 101 (by decide +kernel) (by decide +kernel))⟩
theorem fd_RX8_199 : mi_fd pP RX8 199 3 0 false (tyX2 0) := ⟨RX2, TX2, 5, tyX2, cfX2, by decide, rfl, rfl, Or.inr ⟨"PitHouse", by decide +kernel⟩, fun q => by cases q⟩
theorem fg_RX8_199 : mi_fg pP RX8 199 3 0 := ⟨RX2, TX2, 5, tyX2, cfX2, by decide, Or.inr ⟨"PitHouse", by decide +kernel⟩⟩
theorem fd_RX2_15 : mi_fd pP RX2 15 3 1 false (tyX2 1) := ⟨RX2, TX2, 5, tyX2, cfX2, by decide, rfl, rfl, Or.inl (pT_mem 103 (by decide +kernel) (by decide +kernel)), fun q => by cases q⟩
theorem fg_RX2_15 : mi_fg pP RX2 15 3 1 := ⟨RX2, TX2, 5, tyX2, cfX2, by decide, Or.inl (pT_mem 103 (by decide +kernel) (by decide +kernel))⟩
theorem fd_RX8_206 : mi_fd pP RX8 206 3 1 false (tyX2 1) := ⟨RX2, TX2, 5, tyX2, cfX2, by decide, rfl, rfl, Or.inr ⟨"PitHouse", by decide +kernel⟩, fun q => by cases q⟩
theorem fg_RX8_206 : mi_fg pP RX8 206 3 1 := ⟨RX2, TX2, 5, tyX2, cfX2, by decide, Or.inr ⟨"PitHouse", by decide +kernel⟩⟩
theorem fd_RX2_19 : mi_fd pP RX2 19 3 2 false (tyX2 2) := ⟨RX2, TX2, 5, tyX2, cfX2, by decide, rfl, rfl, Or.inl (pT_mem 105 (by decide +kernel) (by decide +kernel)), fun q => by cases q⟩
theorem fg_RX2_19 : mi_fg pP RX2 19 3 2 := ⟨RX2, TX2, 5, tyX2, cfX2, by decide, Or.inl (pT_mem 105 (by decide +kernel) (by decide +kernel))⟩
theorem fd_RX8_298 : mi_fd pP RX8 298 3 2 false (tyX2 2) := ⟨RX2, TX2, 5, tyX2, cfX2, by decide, rfl, rfl, Or.inr ⟨"PitHouse", by decide +kernel⟩, fun q => by cases q⟩
theorem fg_RX8_298 : mi_fg pP RX8 298 3 2 := ⟨RX2, TX2, 5, tyX2, cfX2, by decide, Or.inr ⟨"PitHouse", by decide +kernel⟩⟩
theorem fd_RX2_22 : mi_fd pP RX2 22 3 3 false (tyX2 3) := ⟨RX2, TX2, 5, tyX2, cfX2, by decide, rfl, rfl, Or.inl (pT_mem 107 (by decide +kernel) (by decide +kernel)), fun q => by cases q⟩
theorem fg_RX2_22 : mi_fg pP RX2 22 3 3 := ⟨RX2, TX2, 5, tyX2, cfX2, by decide, Or.inl (pT_mem 107 (by decide +kernel) (by decide +kernel))⟩
theorem fd_RX8_182 : mi_fd pP RX8 182 3 3 false (tyX2 3) := ⟨RX2, TX2, 5, tyX2, cfX2, by decide, rfl, rfl, Or.inr ⟨"PitHouse", by decide +kernel⟩, fun q => by cases q⟩
theorem fg_RX8_182 : mi_fg pP RX8 182 3 3 := ⟨RX2, TX2, 5, tyX2, cfX2, by decide, Or.inr ⟨"PitHouse", by decide +kernel⟩⟩
theorem fd_RX2_26 : mi_fd pP RX2 26 3 4 false (tyX2 4) := ⟨RX2, TX2, 5, tyX2, cfX2, by decide, rfl, rfl, Or.inl (pT_mem 109 (by decide +kernel) (by decide +kernel)), fun q => by cases q⟩
theorem fg_RX2_26 : mi_fg pP RX2 26 3 4 := ⟨RX2, TX2, 5, tyX2, cfX2, by decide, Or.inl (pT_mem 109 (by decide +kernel) (by decide +kernel))⟩
theorem fd_RX8_185 : mi_fd pP RX8 185 3 4 false (tyX2 4) := ⟨RX2, TX2, 5, tyX2, cfX2, by decide, rfl, rfl, Or.inr ⟨"PitHouse", by decide +kernel⟩, fun q => by cases q⟩
theorem fg_RX8_185 : mi_fg pP RX8 185 3 4 := ⟨RX2, TX2, 5, tyX2, cfX2, by decide, Or.inr ⟨"PitHouse", by decide +kernel⟩⟩
theorem fd_RX1_9 : mi_fd pP RX1 9 2 0 false (tyX1 0) := ⟨RX1, TX1, 2, tyX1, cfX1, by decide, rfl, rfl, Or.inl (pT_mem 134 (by decide +kernel) (by decide +kernel)), fun q => by cases q⟩
theorem fg_RX1_9 : mi_fg pP RX1 9 2 0 := ⟨RX1, TX1, 2, tyX1, cfX1, by decide, Or.inl (pT_mem 134 (by decide +kernel) (by decide +kernel))⟩
theorem fd_RX1_15 : mi_fd pP RX1 15 2 1 false (tyX1 1) := ⟨RX1, TX1, 2, tyX1, cfX1, by decide, rfl, rfl, Or.inl (pT_mem 135 (by decide +kernel) (by decide +kernel)), fun q => by cases q⟩
theorem fg_RX1_15 : mi_fg pP RX1 15 2 1 := ⟨RX1, TX1, 2, tyX1, cfX1, by decide, Or.inl (pT_mem 135 (by decide +kernel) (by decide +kernel))⟩
theorem fd_RX5_118 : mi_fd pP RX5 118 2 1 false (tyX1 1) := ⟨RX1, TX1, 2, tyX1, cfX1, by decide, rfl, rfl, Or.inr ⟨"PitHouse", by decide +kernel⟩, fun q => by cases q⟩
theorem fg_RX5_118 : mi_fg pP RX5 118 2 1 := ⟨RX1, TX1, 2, tyX1, cfX1, by decide, Or.inr ⟨"PitHouse", by decide +kernel⟩⟩
theorem fd_RX8_214 : mi_fd pP RX8 214 2 1 false (tyX1 1) := ⟨RX1, TX1, 2, tyX1, cfX1, by decide, rfl, rfl, Or.inr ⟨"PitHouse", by decide +kernel⟩, fun q => by cases q⟩
theorem fg_RX8_214 : mi_fg pP RX8 214 2 1 := ⟨RX1, TX1, 2, tyX1, cfX1, by decide, Or.inr ⟨"PitHouse", by decide +kernel⟩⟩
theorem fd_RX4_7 : mi_fd pP RX4 7 5 0 false (tyX4 0) := ⟨RX4, TX4, 4, tyX4, cfX4, by decide, rfl, rfl, Or.inl (pT_mem 149 (by decide +kernel) (by decide +kernel)), fun q => by cases q⟩
theorem fg_RX4_7 : mi_fg pP RX4 7 5 0 := ⟨RX4, TX4, 4, tyX4, cfX4, by decide, Or.inl (pT_mem 149 (by decide +kernel) (by decide +kernel))⟩
theorem fd_RX4_13 : mi_fd pP RX4 13 5 1 false (tyX4 1) := ⟨RX4, TX4, 4, tyX4, cfX4, by decide, rfl, rfl, Or.inl (pT_mem 150 (by decide +kernel) (by decide +kernel)), fun q => by cases q⟩
theorem fg_RX4_13 : mi_fg pP RX4 13 5 1 := ⟨RX4, TX4, 4, tyX4, cfX4, by decide, Or.inl (pT_mem 150 (by decide +kernel) (by decide +kernel))⟩
theorem fd_RX5_116 : mi_fd pP RX5 116 5 1 false (tyX4 1) := ⟨RX4, TX4, 4, tyX4, cfX4, by decide, rfl, rfl, Or.inr ⟨"PitHouse", by decide +kernel⟩, fun q => by cases q⟩
theorem fg_RX5_116 : mi_fg pP RX5 116 5 1 := ⟨RX4, TX4, 4, tyX4, cfX4, by decide, Or.inr ⟨"PitHouse", by decide +kernel⟩⟩
theorem fd_RX4_16 : mi_fd pP RX4 16 5 2 false (tyX4 2) := ⟨RX4, TX4, 4, tyX4, cfX4, by decide, rfl, rfl, Or.inl (pT_mem 152 (by decide +kernel) (by decide +kernel)), fun q => by cases q⟩
theorem fg_RX4_16 : mi_fg pP RX4 16 5 2 := ⟨RX4, TX4, 4, tyX4, cfX4, by decide, Or.inl (pT_mem 152 (by decide +kernel) (by decide +kernel))⟩
theorem fd_RX5_115 : mi_fd pP RX5 115 5 2 false (tyX4 2) := ⟨RX4, TX4, 4, tyX4, cfX4, by decide, rfl, rfl, Or.inr ⟨"PitHouse", by decide +kernel⟩, fun q => by cases q⟩
theorem fg_RX5_115 : mi_fg pP RX5 115 5 2 := ⟨RX4, TX4, 4, tyX4, cfX4, by decide, Or.inr ⟨"PitHouse", by decide +kernel⟩⟩
theorem fd_RX4_19 : mi_fd pP RX4 19 5 3 false (tyX4 3) := ⟨RX4, TX4, 4, tyX4, cfX4, by decide, rfl, rfl, Or.inl (pT_mem 154 (by decide +kernel) (by decide +kernel)), fun q => by cases q⟩
theorem fg_RX4_19 : mi_fg pP RX4 19 5 3 := ⟨RX4, TX4, 4, tyX4, cfX4, by decide, Or.inl (pT_mem 154 (by decide +kernel) (by decide +kernel))⟩
theorem fd_RX5_117 : mi_fd pP RX5 117 5 3 false (tyX4 3) := ⟨RX4, TX4, 4, tyX4, cfX4, by decide, rfl, rfl, Or.inr ⟨"PitHouse", by decide +kernel⟩, fun q => by cases q⟩
theorem fg_RX5_117 : mi_fg pP RX5 117 5 3 := ⟨RX4, TX4, 4, tyX4, cfX4, by decide, Or.inr ⟨"PitHouse", by decide +kernel⟩⟩
theorem fd_RX0_10 : mi_fd pP RX0 10 1 0 true (tyX0 0) := ⟨RX0, TX0, 2, tyX0, cfX0, by decide, rfl, rfl, Or.inl (pT_mem 165 (by decide +kernel) (by decide +kernel)), fun _ => ⟨rfl, pT_mem 165 (by decide +kernel) (by decide +kernel)⟩⟩
theorem fg_RX0_10 : mi_fg pP RX0 10 1 0 := ⟨RX0, TX0, 2, tyX0, cfX0, by decide, Or.inl (pT_mem 165 (by decide +kernel) (by decide +kernel))⟩
theorem fg_RX5_101 : mi_fg pP RX5 101 1 0 := ⟨RX0, TX0, 2, tyX0, cfX0, by decide, Or.inr ⟨"PitHouse", by decide +kernel⟩⟩
theorem fg_RX8_316 : mi_fg pP RX8 316 1 0 := ⟨RX0, TX0, 2, tyX0, cfX0, by decide, Or.inr ⟨"PitHouse", by decide +kernel⟩⟩
theorem fd_RX0_19 : mi_fd pP RX0 19 1 1 true (tyX0 1) := ⟨RX0, TX0, 2, tyX0, cfX0, by decide, rfl, rfl, Or.inl (pT_mem 168 (by decide +kernel) (by decide +kernel)), fun _ => ⟨rfl, pT_mem 168 (by decide +kernel) (by decide +kernel)⟩⟩
theorem fg_RX0_19 : mi_fg pP RX0 19 1 1 := ⟨RX0, TX0, 2, tyX0, cfX0, by decide, Or.inl (pT_mem 168 (by decide +kernel) (by decide +kernel))⟩
theorem fg_RX5_106 : mi_fg pP RX5 106 1 1 := ⟨RX0, TX0, 2, tyX0, cfX0, by decide, Or.inr ⟨"PitHouse", by decide +kernel⟩⟩
theorem fd_RX5_47 : mi_fd pP RX5 47 6 0 true (tyX5 0) := ⟨RX5, TX5, 10, tyX5, cfX5, by decide, rfl, rfl, Or.inl (pT_mem 183 (by decide +kernel) (by decide +kernel)), fun _ => ⟨rfl, pT_mem 183 (by decide +kernel) (by decide +kernel)⟩⟩
theorem fg_RX5_47 : mi_fg pP RX5 47 6 0 := ⟨RX5, TX5, 10, tyX5, cfX5, by decide, Or.inl (pT_mem 183 (by decide +kernel) (by decide +kernel))⟩
theorem fd_RX5_12 : mi_fd pP RX5 12 6 1 true (tyX5 1) := ⟨RX5, TX5, 10, tyX5, cfX5, by decide, rfl, rfl, Or.inl (pT_mem 184 (by decide +kernel) (by decide +kernel)), fun _ => ⟨rfl, pT_mem 184 (by decide +kernel) (by decide +kernel)⟩⟩
theorem fg_RX5_12 : mi_fg pP RX5 12 6 1 := ⟨RX5, TX5, 10, tyX5, cfX5, by decide, Or.inl (pT_mem 184 (by decide +kernel) (by decide +kernel))⟩
theorem fg_RX8_210 : mi_fg pP RX8 210 6 1 := ⟨RX5, TX5, 10, tyX5, cfX5, by decide, Or.inr ⟨"PitHouse", by decide +kernel⟩⟩
theorem fd_RX5_18 : mi_fd pP RX5 18 6 2 false (tyX5 2) := ⟨RX5, TX5, 10, tyX5, cfX5, by decide, rfl, rfl, Or.inl (pT_mem 186 (by decide +kernel) (by decide +kernel)), fun q => by cases q⟩
theorem fg_RX5_18 : mi_fg pP RX5 18 6 2 := ⟨RX5, TX5, 10, tyX5, cfX5, by decide, Or.inl (pT_mem 186 (by decide +kernel) (by decide +kernel))⟩
theorem fd_RX8_169 : mi_fd pP RX8 169 6 2 false (tyX5 2) := ⟨RX5, TX5, 10, tyX5, cfX5, by decide, rfl, rfl, Or.inr ⟨"PitHouse", by decide +kernel⟩, fun q => by cases q⟩
theorem fg_RX8_169 : mi_fg pP RX8 169 6 2 := ⟨RX5, TX5, 10, tyX5, cfX5, by decide, Or.inr ⟨"PitHouse", by decide +kernel⟩⟩
theorem fd_RX5_22 : mi_fd pP RX5 22 6 3 false (tyX5 3) := ⟨RX5, TX5, 10, tyX5, cfX5, by decide, rfl, rfl, Or.inl (pT_mem 188 (by decide +kernel) (by decide +kernel)), fun q => by cases q⟩
theorem fg_RX5_22 : mi_fg pP RX5 22 6 3 := ⟨RX5, TX5, 10, tyX5, cfX5, by decide, Or.inl (pT_mem 188 (by decide +kernel) (by decide +kernel))⟩
theorem fd_RX5_25 : mi_fd pP RX5 25 6 4 false (tyX5 4) := ⟨RX5, TX5, 10, tyX5, cfX5, by decide, rfl, rfl, Or.inl (pT_mem 189 (by decide +kernel) (by decide +kernel)), fun q => by cases q⟩
theorem fg_RX5_25 : mi_fg pP RX5 25 6 4 := ⟨RX5, TX5, 10, tyX5, cfX5, by decide, Or.inl (pT_mem 189 (by decide +kernel) (by decide +kernel))⟩
theorem fd_RX5_29 : mi_fd pP RX5 29 6 5 false (tyX5 5) := ⟨RX5, TX5, 10, tyX5, cfX5, by decide, rfl, rfl, Or.inl (pT_mem 190 (by decide +kernel) (by decide +kernel)), fun q => by cases q⟩
theorem fg_RX5_29 : mi_fg pP RX5 29 6 5 := ⟨RX5, TX5, 10, tyX5, cfX5, by decide, Or.inl (pT_mem 190 (by decide +kernel) (by decide +kernel))⟩
theorem fd_RX8_196 : mi_fd pP RX8 196 6 5 false (tyX5 5) := ⟨RX5, TX5, 10, tyX5, cfX5, by decide, rfl, rfl, Or.inr ⟨"PitHouse", by decide +kernel⟩, fun q => by cases q⟩
theorem fg_RX8_196 : mi_fg pP RX8 196 6 5 := ⟨RX5, TX5, 10, tyX5, cfX5, by decide, Or.inr ⟨"PitHouse", by decide +kernel⟩⟩
theorem fd_RX5_34 : mi_fd pP RX5 34 6 6 false (tyX5 6) := ⟨RX5, TX5, 10, tyX5, cfX5, by decide, rfl, rfl, Or.inl (pT_mem 192 (by decide +kernel) (by decide +kernel)), fun q => by cases q⟩
theorem fg_RX5_34 : mi_fg pP RX5 34 6 6 := ⟨RX5, TX5, 10, tyX5, cfX5, by decide, Or.inl (pT_mem 192 (by decide +kernel) (by decide +kernel))⟩
theorem fd_RX8_238 : mi_fd pP RX8 238 6 6 false (tyX5 6) := ⟨RX5, TX5, 10, tyX5, cfX5, by decide, rfl, rfl, Or.inr ⟨"PitHouse", by decide +kernel⟩, fun q => by cases q⟩
theorem fg_RX8_238 : mi_fg pP RX8 238 6 6 := ⟨RX5, TX5, 10, tyX5, cfX5, by decide, Or.inr ⟨"PitHouse", by decide +kernel⟩⟩
theorem fd_RX5_38 : mi_fd pP RX5 38 6 7 false (tyX5 7) := ⟨RX5, TX5, 10, tyX5, cfX5, by decide, rfl, rfl, Or.inl (pT_mem 194 (by decide +kernel) (by decide +kernel)), fun q => by cases q⟩
theorem fg_RX5_38 : mi_fg pP RX5 38 6 7 := ⟨RX5, TX5, 10, tyX5, cfX5, by decide, Or.inl (pT_mem 194 (by decide +kernel) (by decide +kernel))⟩
theorem fd_RX8_224 : mi_fd pP RX8 224 6 7 false (tyX5 7) := ⟨RX5, TX5, 10, tyX5, cfX5, by decide, rfl, rfl, Or.inr ⟨"PitHouse", by decide +kernel⟩, fun q => by cases q⟩
theorem fg_RX8_224 : mi_fg pP RX8 224 6 7 := ⟨RX5, TX5, 10, tyX5, cfX5, by decide, Or.inr ⟨"PitHouse", by decide +kernel⟩⟩
theorem fd_RX5_41 : mi_fd pP RX5 41 6 8 false (tyX5 8) := ⟨RX5, TX5, 10, tyX5, cfX5, by decide, rfl, rfl, Or.inl (pT_mem 196 (by decide +kernel) (by decide +kernel)), fun q => by cases q⟩
theorem fg_RX5_41 : mi_fg pP RX5 41 6 8 := ⟨RX5, TX5, 10, tyX5, cfX5, by decide, Or.inl (pT_mem 196 (by decide +kernel) (by decide +kernel))⟩
theorem fd_RX8_227 : mi_fd pP RX8 227 6 8 false (tyX5 8) := ⟨RX5, TX5, 10, tyX5, cfX5, by decide, rfl, rfl, Or.inr ⟨"PitHouse", by decide +kernel⟩, fun q => by cases q⟩
theorem fg_RX8_227 : mi_fg pP RX8 227 6 8 := ⟨RX5, TX5, 10, tyX5, cfX5, by decide, Or.inr ⟨"PitHouse", by decide +kernel⟩⟩
theorem fd_RX5_44 : mi_fd pP RX5 44 6 9 false (tyX5 9) := ⟨RX5, TX5, 10, tyX5, cfX5, by decide, rfl, rfl, Or.inl (pT_mem 198 (by decide +kernel) (by decide +kernel)), fun q => by cases q⟩
theorem fg_RX5_44 : mi_fg pP RX5 44 6 9 := ⟨RX5, TX5, 10, tyX5, cfX5, by decide, Or.inl (pT_mem 198 (by decide +kernel) (by decide +kernel))⟩
theorem fd_RX8_230 : mi_fd pP RX8 230 6 9 false (tyX5 9) := ⟨RX5, TX5, 10, tyX5, cfX5, by decide, rfl, rfl, Or.inr ⟨"PitHouse", by decide +kernel⟩, fun q => by cases q⟩
theorem fg_RX8_230 : mi_fg pP RX8 230 6 9 := ⟨RX5, TX5, 10, tyX5, cfX5, by decide, Or.inr ⟨"PitHouse", by decide +kernel⟩⟩
theorem fd_RX7_9 : mi_fd pP RX7 9 8 0 false (tyX7 0) := ⟨RX7, TX7, 7, tyX7, cfX7, by decide, rfl, rfl, Or.inl (pT_mem 226 (by decide +kernel) (by decide +kernel)), fun q => by cases q⟩
theorem fg_RX7_9 : mi_fg pP RX7 9 8 0 := ⟨RX7, TX7, 7, tyX7, cfX7, by decide, Or.inl (pT_mem 226 (by decide +kernel) (by decide +kernel))⟩
theorem fd_RX8_257 : mi_fd pP RX8 257 8 0 false (tyX7 0) := ⟨RX7, TX7, 7, tyX7, cfX7, by decide, rfl, rfl, Or.inr ⟨"PitHouse", by decide +kernel⟩, fun q => by cases q⟩
theorem fg_RX8_257 : mi_fg pP RX8 257 8 0 := ⟨RX7, TX7, 7, tyX7, cfX7, by decide, Or.inr ⟨"PitHouse", by decide +kernel⟩⟩
theorem fd_RX7_15 : mi_fd pP RX7 15 8 1 false (tyX7 1) := ⟨RX7, TX7, 7, tyX7, cfX7, by decide, rfl, rfl, Or.inl (pT_mem 228 (by decide +kernel) (by decide +kernel)), fun q => by cases q⟩
theorem fg_RX7_15 : mi_fg pP RX7 15 8 1 := ⟨RX7, TX7, 7, tyX7, cfX7, by decide, Or.inl (pT_mem 228 (by decide +kernel) (by decide +kernel))⟩
theorem fd_RX8_108 : mi_fd pP RX8 108 8 1 false (tyX7 1) := ⟨RX7, TX7, 7, tyX7, cfX7, by decide, rfl, rfl, Or.inr ⟨"PitHouse", by decide +kernel⟩, fun q => by cases q⟩
theorem fg_RX8_108 : mi_fg pP RX8 108 8 1 := ⟨RX7, TX7, 7, tyX7, cfX7, by decide, Or.inr ⟨"PitHouse", by decide +kernel⟩⟩
theorem fd_RX7_18 : mi_fd pP RX7 18 8 2 false (tyX7 2) := ⟨RX7, TX7, 7, tyX7, cfX7, by decide, rfl, rfl, Or.inl (pT_mem 230 (by decide +kernel) (by decide +kernel)), fun q => by cases q⟩
theorem fg_RX7_18 : mi_fg pP RX7 18 8 2 := ⟨RX7, TX7, 7, tyX7, cfX7, by decide, Or.inl (pT_mem 230 (by decide +kernel) (by decide +kernel))⟩
theorem fd_RX8_88 : mi_fd pP RX8 88 8 2 false (tyX7 2) := ⟨RX7, TX7, 7, tyX7, cfX7, by decide, rfl, rfl, Or.inr ⟨"PitHouse", by decide +kernel⟩, fun q => by cases q⟩
theorem fg_RX8_88 : mi_fg pP RX8 88 8 2 := ⟨RX7, TX7, 7, tyX7, cfX7, by decide, Or.inr ⟨"PitHouse", by decide +kernel⟩⟩
theorem fd_RX7_21 : mi_fd pP RX7 21 8 3 false (tyX7 3) := ⟨RX7, TX7, 7, tyX7, cfX7, by decide, rfl, rfl, Or.inl (pT_mem 232 (by decide +kernel) (by decide +kernel)), fun q => by cases q⟩
theorem fg_RX7_21 : mi_fg pP RX7 21 8 3 := ⟨RX7, TX7, 7, tyX7, cfX7, by decide, Or.inl (pT_mem 232 (by decide +kernel) (by decide +kernel))⟩
theorem fd_RX8_260 : mi_fd pP RX8 260 8 3 false (tyX7 3) := ⟨RX7, TX7, 7, tyX7, cfX7, by decide, rfl, rfl, Or.inr ⟨"PitHouse", by decide +kernel⟩, fun q => by cases q⟩
theorem fg_RX8_260 : mi_fg pP RX8 260 8 3 := ⟨RX7, TX7, 7, tyX7, cfX7, by decide, Or.inr ⟨"PitHouse", by decide +kernel⟩⟩
theorem fd_RX7_24 : mi_fd pP RX7 24 8 4 false (tyX7 4) := ⟨RX7, TX7, 7, tyX7, cfX7, by decide, rfl, rfl, Or.inl (pT_mem 234 (by decide +kernel) (by decide +kernel)), fun q => by cases q⟩
theorem fg_RX7_24 : mi_fg pP RX7 24 8 4 := ⟨RX7, TX7, 7, tyX7, cfX7, by decide, Or.inl (pT_mem 234 (by decide +kernel) (by decide +kernel))⟩
theorem fd_RX8_263 : mi_fd pP RX8 263 8 4 false (tyX7 4) := ⟨RX7, TX7, 7, tyX7, cfX7, by decide, rfl, rfl, Or.inr ⟨"PitHouse", by decide +kernel⟩, fun q => by cases q⟩
theorem fg_RX8_263 : mi_fg pP RX8 263 8 4 := ⟨RX7, TX7, 7, tyX7, cfX7, by decide, Or.inr ⟨"PitHouse", by decide +kernel⟩⟩
theorem fd_RX7_27 : mi_fd pP RX7 27 8 5 false (tyX7 5) := ⟨RX7, TX7, 7, tyX7, cfX7, by decide, rfl, rfl, Or.inl (pT_mem 236 (by decide +kernel) (by decide +kernel)), fun q => by cases q⟩
theorem fg_RX7_27 : mi_fg pP RX7 27 8 5 := ⟨RX7, TX7, 7, tyX7, cfX7, by decide, Or.inl (pT_mem 236 (by decide +kernel) (by decide +kernel))⟩
theorem fd_RX8_117 : mi_fd pP RX8 117 8 5 false (tyX7 5) := ⟨RX7, TX7, 7, tyX7, cfX7, by decide, rfl, rfl, Or.inr ⟨"PitHouse", by decide +kernel⟩, fun q => by cases q⟩
theorem fg_RX8_117 : mi_fg pP RX8 117 8 5 := ⟨RX7, TX7, 7, tyX7, cfX7, by decide, Or.inr ⟨"PitHouse", by decide +kernel⟩⟩
theorem fd_RX7_30 : mi_fd pP RX7 30 8 6 false (tyX7 6) := ⟨RX7, TX7, 7, tyX7, cfX7, by decide, rfl, rfl, Or.inl (pT_mem 238 (by decide +kernel) (by decide +kernel)), fun q => by cases q⟩
theorem fg_RX7_30 : mi_fg pP RX7 30 8 6 := ⟨RX7, TX7, 7, tyX7, cfX7, by decide, Or.inl (pT_mem 238 (by decide +kernel) (by decide +kernel))⟩
theorem fd_RX8_120 : mi_fd pP RX8 120 8 6 false (tyX7 6) := ⟨RX7, TX7, 7, tyX7, cfX7, by decide, rfl, rfl, Or.inr ⟨"PitHouse", by decide +kernel⟩, fun q => by cases q⟩
theorem fg_RX8_120 : mi_fg pP RX8 120 8 6 := ⟨RX7, TX7, 7, tyX7, cfX7, by decide, Or.inr ⟨"PitHouse", by decide +kernel⟩⟩
theorem fd_RX8_11 : mi_fd pP RX8 11 0 0 true (tyX8 0) := ⟨RX8, TX8, 10, tyX8, cfX8, by decide, rfl, rfl, Or.inl (pT_mem 255 (by decide +kernel) (by decide +kernel)), fun _ => ⟨rfl, pT_mem 255 (by decide +kernel) (by decide +kernel)⟩⟩
theorem fg_RX8_11 : mi_fg pP RX8 11 0 0 := ⟨RX8, TX8, 10, tyX8, cfX8, by decide, Or.inl (pT_mem 255 (by decide +kernel) (by decide +kernel))⟩
theorem fd_RX8_17 : mi_fd pP RX8 17 0 1 true (tyX8 1) := ⟨RX8, TX8, 10, tyX8, cfX8, by decide, rfl, rfl, Or.inl (pT_mem 256 (by decide +kernel) (by decide +kernel)), fun _ => ⟨rfl, pT_mem 256 (by decide +kernel) (by decide +kernel)⟩⟩
theorem fg_RX8_17 : mi_fg pP RX8 17 0 1 := ⟨RX8, TX8, 10, tyX8, cfX8, by decide, Or.inl (pT_mem 256 (by decide +kernel) (by decide +kernel))⟩
theorem fd_RX8_24 : mi_fd pP RX8 24 0 2 true (tyX8 2) := ⟨RX8, TX8, 10, tyX8, cfX8, by decide, rfl, rfl, Or.inl (pT_mem 257 (by decide +kernel) (by decide +kernel)), fun _ => ⟨rfl, pT_mem 257 (by decide +kernel) (by decide +kernel)⟩⟩
theorem fg_RX8_24 : mi_fg pP RX8 24 0 2 := ⟨RX8, TX8, 10, tyX8, cfX8, by decide, Or.inl (pT_mem 257 (by decide +kernel) (by decide +kernel))⟩
theorem fd_RX8_31 : mi_fd pP RX8 31 0 3 true (tyX8 3) := ⟨RX8, TX8, 10, tyX8, cfX8, by decide, rfl, rfl, Or.inl (pT_mem 258 (by decide +kernel) (by decide +kernel)), fun _ => ⟨rfl, pT_mem 258 (by decide +kernel) (by decide +kernel)⟩⟩
theorem fg_RX8_31 : mi_fg pP RX8 31 0 3 := ⟨RX8, TX8, 10, tyX8, cfX8, by decide, Or.inl (pT_mem 258 (by decide +kernel) (by decide +kernel))⟩
theorem fd_RX8_38 : mi_fd pP RX8 38 0 4 true (tyX8 4) := ⟨RX8, TX8, 10, tyX8, cfX8, by decide, rfl, rfl, Or.inl (pT_mem 259 (by decide +kernel) (by decide +kernel)), fun _ => ⟨rfl, pT_mem 259 (by decide +kernel) (by decide +kernel)⟩⟩
theorem fg_RX8_38 : mi_fg pP RX8 38 0 4 := ⟨RX8, TX8, 10, tyX8, cfX8, by decide, Or.inl (pT_mem 259 (by decide +kernel) (by decide +kernel))⟩
theorem fd_RX8_42 : mi_fd pP RX8 42 0 5 false (tyX8 5) := ⟨RX8, TX8, 10, tyX8, cfX8, by decide, rfl, rfl, Or.inl (pT_mem 260 (by decide +kernel) (by decide +kernel)), fun q => by cases q⟩
theorem fg_RX8_42 : mi_fg pP RX8 42 0 5 := ⟨RX8, TX8, 10, tyX8, cfX8, by decide, Or.inl (pT_mem 260 (by decide +kernel) (by decide +kernel))⟩
theorem fd_RX8_46 : mi_fd pP RX8 46 0 6 false (tyX8 6) := ⟨RX8, TX8, 10, tyX8, cfX8, by decide, rfl, rfl, Or.inl (pT_mem 261 (by decide +kernel) (by decide +kernel)), fun q => by cases q⟩
theorem fg_RX8_46 : mi_fg pP RX8 46 0 6 := ⟨RX8, TX8, 10, tyX8, cfX8, by decide, Or.inl (pT_mem 261 (by decide +kernel) (by decide +kernel))⟩
theorem fd_RX8_49 : mi_fd pP RX8 49 0 7 false (tyX8 7) := ⟨RX8, TX8, 10, tyX8, cfX8, by decide, rfl, rfl, Or.inl (pT_mem 262 (by decide +kernel) (by decide +kernel)), fun q => by cases q⟩
theorem fg_RX8_49 : mi_fg pP RX8 49 0 7 := ⟨RX8, TX8, 10, tyX8, cfX8, by decide, Or.inl (pT_mem 262 (by decide +kernel) (by decide +kernel))⟩
theorem fd_RX8_52 : mi_fd pP RX8 52 0 8 false (tyX8 8) := ⟨RX8, TX8, 10, tyX8, cfX8, by decide, rfl, rfl, Or.inl (pT_mem 263 (by decide +kernel) (by decide +kernel)), fun q => by cases q⟩
theorem fg_RX8_52 : mi_fg pP RX8 52 0 8 := ⟨RX8, TX8, 10, tyX8, cfX8, by decide, Or.inl (pT_mem 263 (by decide +kernel) (by decide +kernel))⟩
theorem fd_RX8_55 : mi_fd pP RX8 55 0 9 false (tyX8 9) := ⟨RX8, TX8, 10, tyX8, cfX8, by decide, rfl, rfl, Or.inl (pT_mem 264 (by decide +kernel) (by decide +kernel)), fun q => by cases q⟩
theorem fg_RX8_55 : mi_fg pP RX8 55 0 9 := ⟨RX8, TX8, 10, tyX8, cfX8, by decide, Or.inl (pT_mem 264 (by decide +kernel) (by decide +kernel))⟩
theorem sl_RX6_7 : Jvm.Cond.fieldLink RX6 7 RX6 "ZONE_FIRSTS" "[I" ∈ pP.2.1 := pT_mem 456 (by decide +kernel) (by decide +kernel)
theorem sl_RX6_17 : Jvm.Cond.fieldLink RX6 17 RX6 "ZONE_SECTORS" "[I" ∈ pP.2.1 := pT_mem 458 (by decide +kernel) (by decide +kernel)
theorem sl_RX1_47 : Jvm.Cond.fieldLink RX1 47 RX1 "LINE_SETS" "[I" ∈ pP.2.1 := pT_mem 615 (by decide +kernel) (by decide +kernel)
theorem sl_RX4_24 : Jvm.Cond.fieldLink RX4 24 RX4 "WORDS" "[I" ∈ pP.2.1 := pT_mem 638 (by decide +kernel) (by decide +kernel)
theorem sl_RJx4a65c_39 : Jvm.Cond.fieldLink RJx4a65c 39 RJx4a65c "DEFAULTCAPACITY_EMPTY_ELEMENTDATA" "[Ljava/lang/Object;" ∈ pP.2.1 := pT_mem 893 (by decide +kernel) (by decide +kernel)
theorem fd_RJx4a65c_9 : mi_fd pP RJx4a65c 9 13 1 false (tyJx4a65c 1) := ⟨RJx4a65c, TJx4a65c, 3, tyJx4a65c, cfJx4a65c, by decide, rfl, rfl, Or.inl (pT_mem 895 (by decide +kernel) (by decide +kernel)), fun q => by cases q⟩
theorem fg_RJx4a65c_9 : mi_fg pP RJx4a65c 9 13 1 := ⟨RJx4a65c, TJx4a65c, 3, tyJx4a65c, cfJx4a65c, by decide, Or.inl (pT_mem 895 (by decide +kernel) (by decide +kernel))⟩
theorem fd_RJx35411_37 : mi_fd pP RJx35411 37 13 1 false (tyJx4a65c 1) := ⟨RJx4a65c, TJx4a65c, 3, tyJx4a65c, cfJx4a65c, by decide, rfl, rfl, Or.inl (pT_mem 896 (by decide +kernel) (by decide +kernel)), fun q => by cases q⟩
theorem fg_RJx35411_37 : mi_fg pP RJx35411 37 13 1 := ⟨RJx4a65c, TJx4a65c, 3, tyJx4a65c, cfJx4a65c, by decide, Or.inl (pT_mem 896 (by decide +kernel) (by decide +kernel))⟩
theorem fd_RJx35411_28 : mi_fd pP RJx35411 28 13 2 false (tyJx4a65c 2) := ⟨RJx4a65c, TJx4a65c, 3, tyJx4a65c, cfJx4a65c, by decide, rfl, rfl, Or.inr ⟨"java/util/ArrayList", by decide +kernel⟩, fun q => by cases q⟩
theorem fg_RJx35411_28 : mi_fg pP RJx35411 28 13 2 := ⟨RJx4a65c, TJx4a65c, 3, tyJx4a65c, cfJx4a65c, by decide, Or.inr ⟨"java/util/ArrayList", by decide +kernel⟩⟩
theorem fd_RJx4a65c_48 : mi_fd pP RJx4a65c 48 13 2 false (tyJx4a65c 2) := ⟨RJx4a65c, TJx4a65c, 3, tyJx4a65c, cfJx4a65c, by decide, rfl, rfl, Or.inl (pT_mem 898 (by decide +kernel) (by decide +kernel)), fun q => by cases q⟩
theorem fg_RJx4a65c_48 : mi_fg pP RJx4a65c 48 13 2 := ⟨RJx4a65c, TJx4a65c, 3, tyJx4a65c, cfJx4a65c, by decide, Or.inl (pT_mem 898 (by decide +kernel) (by decide +kernel))⟩
theorem fd_RJxc12de_7 : mi_fd pP RJxc12de 7 13 0 false (tyJx4a65c 0) := ⟨RJx4a65c, TJx4a65c, 3, tyJx4a65c, cfJx4a65c, by decide, rfl, rfl, Or.inl (pT_mem 899 (by decide +kernel) (by decide +kernel)), fun q => by cases q⟩
theorem fg_RJxc12de_7 : mi_fg pP RJxc12de 7 13 0 := ⟨RJx4a65c, TJx4a65c, 3, tyJx4a65c, cfJx4a65c, by decide, Or.inl (pT_mem 899 (by decide +kernel) (by decide +kernel))⟩
theorem fd_RX9_35 : mi_fd pP RX9 35 9 0 false (tyX9 0) := ⟨RX9, TX9, 15, tyX9, cfX9, by decide, rfl, rfl, Or.inl (pT_mem 910 (by decide +kernel) (by decide +kernel)), fun q => by cases q⟩
theorem fg_RX9_35 : mi_fg pP RX9 35 9 0 := ⟨RX9, TX9, 15, tyX9, cfX9, by decide, Or.inl (pT_mem 910 (by decide +kernel) (by decide +kernel))⟩
theorem fd_RX9_11 : mi_fd pP RX9 11 9 1 true (tyX9 1) := ⟨RX9, TX9, 15, tyX9, cfX9, by decide, rfl, rfl, Or.inl (pT_mem 911 (by decide +kernel) (by decide +kernel)), fun _ => ⟨rfl, pT_mem 911 (by decide +kernel) (by decide +kernel)⟩⟩
theorem fg_RX9_11 : mi_fg pP RX9 11 9 1 := ⟨RX9, TX9, 15, tyX9, cfX9, by decide, Or.inl (pT_mem 911 (by decide +kernel) (by decide +kernel))⟩
theorem fd_RX9_15 : mi_fd pP RX9 15 9 2 true (tyX9 2) := ⟨RX9, TX9, 15, tyX9, cfX9, by decide, rfl, rfl, Or.inl (pT_mem 912 (by decide +kernel) (by decide +kernel)), fun _ => ⟨rfl, pT_mem 912 (by decide +kernel) (by decide +kernel)⟩⟩
theorem fg_RX9_15 : mi_fg pP RX9 15 9 2 := ⟨RX9, TX9, 15, tyX9, cfX9, by decide, Or.inl (pT_mem 912 (by decide +kernel) (by decide +kernel))⟩
theorem fd_RX9_21 : mi_fd pP RX9 21 9 3 true (tyX9 3) := ⟨RX9, TX9, 15, tyX9, cfX9, by decide, rfl, rfl, Or.inl (pT_mem 913 (by decide +kernel) (by decide +kernel)), fun _ => ⟨rfl, pT_mem 913 (by decide +kernel) (by decide +kernel)⟩⟩
theorem fg_RX9_21 : mi_fg pP RX9 21 9 3 := ⟨RX9, TX9, 15, tyX9, cfX9, by decide, Or.inl (pT_mem 913 (by decide +kernel) (by decide +kernel))⟩
theorem fd_RX9_25 : mi_fd pP RX9 25 9 4 true (tyX9 4) := ⟨RX9, TX9, 15, tyX9, cfX9, by decide, rfl, rfl, Or.inl (pT_mem 914 (by decide +kernel) (by decide +kernel)), fun _ => ⟨rfl, pT_mem 914 (by decide +kernel) (by decide +kernel)⟩⟩
theorem fg_RX9_25 : mi_fg pP RX9 25 9 4 := ⟨RX9, TX9, 15, tyX9, cfX9, by decide, Or.inl (pT_mem 914 (by decide +kernel) (by decide +kernel))⟩
theorem fd_RX9_124 : mi_fd pP RX9 124 9 5 false (tyX9 5) := ⟨RX9, TX9, 15, tyX9, cfX9, by decide, rfl, rfl, Or.inl (pT_mem 915 (by decide +kernel) (by decide +kernel)), fun q => by cases q⟩
theorem fg_RX9_124 : mi_fg pP RX9 124 9 5 := ⟨RX9, TX9, 15, tyX9, cfX9, by decide, Or.inl (pT_mem 915 (by decide +kernel) (by decide +kernel))⟩
theorem fd_RX9_120 : mi_fd pP RX9 120 9 6 false (tyX9 6) := ⟨RX9, TX9, 15, tyX9, cfX9, by decide, rfl, rfl, Or.inl (pT_mem 916 (by decide +kernel) (by decide +kernel)), fun q => by cases q⟩
theorem fg_RX9_120 : mi_fg pP RX9 120 9 6 := ⟨RX9, TX9, 15, tyX9, cfX9, by decide, Or.inl (pT_mem 916 (by decide +kernel) (by decide +kernel))⟩
theorem fd_RX9_127 : mi_fd pP RX9 127 9 7 false (tyX9 7) := ⟨RX9, TX9, 15, tyX9, cfX9, by decide, rfl, rfl, Or.inl (pT_mem 917 (by decide +kernel) (by decide +kernel)), fun q => by cases q⟩
theorem fg_RX9_127 : mi_fg pP RX9 127 9 7 := ⟨RX9, TX9, 15, tyX9, cfX9, by decide, Or.inl (pT_mem 917 (by decide +kernel) (by decide +kernel))⟩
theorem fd_RX9_28 : mi_fd pP RX9 28 9 8 false (tyX9 8) := ⟨RX9, TX9, 15, tyX9, cfX9, by decide, rfl, rfl, Or.inl (pT_mem 918 (by decide +kernel) (by decide +kernel)), fun q => by cases q⟩
theorem fg_RX9_28 : mi_fg pP RX9 28 9 8 := ⟨RX9, TX9, 15, tyX9, cfX9, by decide, Or.inl (pT_mem 918 (by decide +kernel) (by decide +kernel))⟩
theorem fd_RX9_32 : mi_fd pP RX9 32 9 9 true (tyX9 9) := ⟨RX9, TX9, 15, tyX9, cfX9, by decide, rfl, rfl, Or.inl (pT_mem 919 (by decide +kernel) (by decide +kernel)), fun _ => ⟨rfl, pT_mem 919 (by decide +kernel) (by decide +kernel)⟩⟩
theorem fg_RX9_32 : mi_fg pP RX9 32 9 9 := ⟨RX9, TX9, 15, tyX9, cfX9, by decide, Or.inl (pT_mem 919 (by decide +kernel) (by decide +kernel))⟩
theorem fd_RX9_201 : mi_fd pP RX9 201 9 10 false (tyX9 10) := ⟨RX9, TX9, 15, tyX9, cfX9, by decide, rfl, rfl, Or.inl (pT_mem 920 (by decide +kernel) (by decide +kernel)), fun q => by cases q⟩
theorem fg_RX9_201 : mi_fg pP RX9 201 9 10 := ⟨RX9, TX9, 15, tyX9, cfX9, by decide, Or.inl (pT_mem 920 (by decide +kernel) (by decide +kernel))⟩
theorem fd_RX9_197 : mi_fd pP RX9 197 9 11 false (tyX9 11) := ⟨RX9, TX9, 15, tyX9, cfX9, by decide, rfl, rfl, Or.inl (pT_mem 921 (by decide +kernel) (by decide +kernel)), fun q => by cases q⟩
theorem fg_RX9_197 : mi_fg pP RX9 197 9 11 := ⟨RX9, TX9, 15, tyX9, cfX9, by decide, Or.inl (pT_mem 921 (by decide +kernel) (by decide +kernel))⟩
theorem fd_RX9_214 : mi_fd pP RX9 214 9 12 false (tyX9 12) := ⟨RX9, TX9, 15, tyX9, cfX9, by decide, rfl, rfl, Or.inl (pT_mem 922 (by decide +kernel) (by decide +kernel)), fun q => by cases q⟩
theorem fg_RX9_214 : mi_fg pP RX9 214 9 12 := ⟨RX9, TX9, 15, tyX9, cfX9, by decide, Or.inl (pT_mem 922 (by decide +kernel) (by decide +kernel))⟩
theorem fd_RX9_178 : mi_fd pP RX9 178 9 13 false (tyX9 13) := ⟨RX9, TX9, 15, tyX9, cfX9, by decide, rfl, rfl, Or.inl (pT_mem 923 (by decide +kernel) (by decide +kernel)), fun q => by cases q⟩
theorem fg_RX9_178 : mi_fg pP RX9 178 9 13 := ⟨RX9, TX9, 15, tyX9, cfX9, by decide, Or.inl (pT_mem 923 (by decide +kernel) (by decide +kernel))⟩
theorem fd_RX9_181 : mi_fd pP RX9 181 9 14 false (tyX9 14) := ⟨RX9, TX9, 15, tyX9, cfX9, by decide, rfl, rfl, Or.inl (pT_mem 924 (by decide +kernel) (by decide +kernel)), fun q => by cases q⟩
theorem fg_RX9_181 : mi_fg pP RX9 181 9 14 := ⟨RX9, TX9, 15, tyX9, cfX9, by decide, Or.inl (pT_mem 924 (by decide +kernel) (by decide +kernel))⟩
theorem fd_RJx35411_25 : mi_fd pP RJx35411 25 14 0 false (tyJx35411 0) := ⟨RJx35411, TJx35411, 4, tyJx35411, cfJx35411, by decide, rfl, rfl, Or.inl (pT_mem 1102 (by decide +kernel) (by decide +kernel)), fun q => by cases q⟩
theorem fg_RJx35411_25 : mi_fg pP RJx35411 25 14 0 := ⟨RJx35411, TJx35411, 4, tyJx35411, cfJx35411, by decide, Or.inl (pT_mem 1102 (by decide +kernel) (by decide +kernel))⟩
theorem fd_RJx35411_13 : mi_fd pP RJx35411 13 14 1 false (tyJx35411 1) := ⟨RJx35411, TJx35411, 4, tyJx35411, cfJx35411, by decide, rfl, rfl, Or.inl (pT_mem 1103 (by decide +kernel) (by decide +kernel)), fun q => by cases q⟩
theorem fg_RJx35411_13 : mi_fg pP RJx35411 13 14 1 := ⟨RJx35411, TJx35411, 4, tyJx35411, cfJx35411, by decide, Or.inl (pT_mem 1103 (by decide +kernel) (by decide +kernel))⟩
theorem fd_RJx35411_22 : mi_fd pP RJx35411 22 14 2 false (tyJx35411 2) := ⟨RJx35411, TJx35411, 4, tyJx35411, cfJx35411, by decide, rfl, rfl, Or.inl (pT_mem 1104 (by decide +kernel) (by decide +kernel)), fun q => by cases q⟩
theorem fg_RJx35411_22 : mi_fg pP RJx35411 22 14 2 := ⟨RJx35411, TJx35411, 4, tyJx35411, cfJx35411, by decide, Or.inl (pT_mem 1104 (by decide +kernel) (by decide +kernel))⟩
theorem fd_RJx35411_1 : mi_fd pP RJx35411 1 14 3 true (tyJx35411 3) := ⟨RJx35411, TJx35411, 4, tyJx35411, cfJx35411, by decide, rfl, rfl, Or.inl (pT_mem 1105 (by decide +kernel) (by decide +kernel)), fun _ => ⟨rfl, pT_mem 1105 (by decide +kernel) (by decide +kernel)⟩⟩
theorem fg_RJx35411_1 : mi_fg pP RJx35411 1 14 3 := ⟨RJx35411, TJx35411, 4, tyJx35411, cfJx35411, by decide, Or.inl (pT_mem 1105 (by decide +kernel) (by decide +kernel))⟩
theorem cwX8_init (own : String) (idx : Nat) : mi_cw pP own idx kX8_init 0 := ⟨⟨pT_mem 71 (by decide +kernel) (by decide +kernel), pT_mem 40 (by decide +kernel) (by decide +kernel), by decide⟩, by decide, by decide, by decide +kernel⟩
theorem cwX8_session (own : String) (idx : Nat) : mi_cw pP own idx kX8_session 0 := ⟨⟨pT_mem 520 (by decide +kernel) (by decide +kernel), pT_mem 40 (by decide +kernel) (by decide +kernel), by decide⟩, by decide, by decide, by decide +kernel⟩
theorem cwX8_track (own : String) (idx : Nat) : mi_cw pP own idx kX8_track 2 := ⟨⟨pT_mem 548 (by decide +kernel) (by decide +kernel), pT_mem 40 (by decide +kernel) (by decide +kernel), by decide⟩, by decide, by decide, by decide +kernel⟩
theorem cwX8_write (own : String) (idx : Nat) : mi_cw pP own idx kX8_write 2 := ⟨⟨pT_mem 563 (by decide +kernel) (by decide +kernel), pT_mem 40 (by decide +kernel) (by decide +kernel), by decide⟩, by decide, by decide, by decide +kernel⟩
theorem cwX8_starve (own : String) (idx : Nat) : mi_cw pP own idx kX8_starve 1 := ⟨⟨pT_mem 665 (by decide +kernel) (by decide +kernel), pT_mem 40 (by decide +kernel) (by decide +kernel), by decide⟩, by decide, by decide, by decide +kernel⟩
theorem cwX8_close (own : String) (idx : Nat) : mi_cw pP own idx kX8_close 1 := ⟨⟨pT_mem 673 (by decide +kernel) (by decide +kernel), pT_mem 40 (by decide +kernel) (by decide +kernel), by decide⟩, by decide, by decide, by decide +kernel⟩
theorem cwX8_end (own : String) (idx : Nat) : mi_cw pP own idx kX8_end 0 := ⟨⟨pT_mem 685 (by decide +kernel) (by decide +kernel), pT_mem 40 (by decide +kernel) (by decide +kernel), by decide⟩, by decide, by decide, by decide +kernel⟩
theorem cwX8_file (own : String) (idx : Nat) : mi_cw pP own idx kX8_file 3 := ⟨⟨pT_mem 697 (by decide +kernel) (by decide +kernel), pT_mem 40 (by decide +kernel) (by decide +kernel), by decide⟩, by decide, by decide, by decide +kernel⟩
theorem cwX8_scratch (own : String) (idx : Nat) : mi_cw pP own idx kX8_scratch 4 := ⟨⟨pT_mem 711 (by decide +kernel) (by decide +kernel), pT_mem 40 (by decide +kernel) (by decide +kernel), by decide⟩, by decide, by decide, by decide +kernel⟩
theorem cwX8_rot (own : String) (idx : Nat) : mi_cw pP own idx kX8_rot 1 := ⟨⟨pT_mem 736 (by decide +kernel) (by decide +kernel), pT_mem 40 (by decide +kernel) (by decide +kernel), by decide⟩, by decide, by decide, by decide +kernel⟩
theorem cwX8_tray (own : String) (idx : Nat) : mi_cw pP own idx kX8_tray 1 := ⟨⟨pT_mem 289 (by decide +kernel) (by decide +kernel), pT_mem 40 (by decide +kernel) (by decide +kernel), by decide⟩, by decide, by decide, by decide +kernel⟩
theorem cwX8_push (own : String) (idx : Nat) : mi_cw pP own idx kX8_push 0 := ⟨⟨pT_mem 293 (by decide +kernel) (by decide +kernel), pT_mem 40 (by decide +kernel) (by decide +kernel), by decide⟩, by decide, by decide, by decide +kernel⟩
theorem cwX8_read (own : String) (idx : Nat) : mi_cw pP own idx kX8_read 1 := ⟨⟨pT_mem 751 (by decide +kernel) (by decide +kernel), pT_mem 40 (by decide +kernel) (by decide +kernel), by decide⟩, by decide, by decide, by decide +kernel⟩
theorem cwX8_seek (own : String) (idx : Nat) : mi_cw pP own idx kX8_seek 1 := ⟨⟨pT_mem 791 (by decide +kernel) (by decide +kernel), pT_mem 40 (by decide +kernel) (by decide +kernel), by decide⟩, by decide, by decide, by decide +kernel⟩
theorem cwX8_clock (own : String) (idx : Nat) : mi_cw pP own idx kX8_clock 0 := ⟨⟨pT_mem 297 (by decide +kernel) (by decide +kernel), pT_mem 40 (by decide +kernel) (by decide +kernel), by decide⟩, by decide, by decide, by decide +kernel⟩
theorem cwX8_angle (own : String) (idx : Nat) : mi_cw pP own idx kX8_angle 1 := ⟨⟨pT_mem 799 (by decide +kernel) (by decide +kernel), pT_mem 40 (by decide +kernel) (by decide +kernel), by decide⟩, by decide, by decide, by decide +kernel⟩
theorem cwX8_ofSector (own : String) (idx : Nat) : mi_cw pP own idx kX8_ofSector 2 := ⟨⟨pT_mem 427 (by decide +kernel) (by decide +kernel), pT_mem 40 (by decide +kernel) (by decide +kernel), by decide⟩, by decide, by decide, by decide +kernel⟩
theorem cwX8_nibbles (own : String) (idx : Nat) : mi_cw pP own idx kX8_nibbles 2 := ⟨⟨pT_mem 467 (by decide +kernel) (by decide +kernel), pT_mem 40 (by decide +kernel) (by decide +kernel), by decide⟩, by decide, by decide, by decide +kernel⟩
theorem cwX8_place (own : String) (idx : Nat) : mi_cw pP own idx kX8_place 2 := ⟨⟨pT_mem 814 (by decide +kernel) (by decide +kernel), pT_mem 40 (by decide +kernel) (by decide +kernel), by decide⟩, by decide, by decide, by decide +kernel⟩
theorem cwX8_ofTrack (own : String) (idx : Nat) : mi_cw pP own idx kX8_ofTrack 2 := ⟨⟨pT_mem 387 (by decide +kernel) (by decide +kernel), pT_mem 40 (by decide +kernel) (by decide +kernel), by decide⟩, by decide, by decide, by decide +kernel⟩
theorem cwX8_ofFile (own : String) (idx : Nat) : mi_cw pP own idx kX8_ofFile 3 := ⟨⟨pT_mem 494 (by decide +kernel) (by decide +kernel), pT_mem 40 (by decide +kernel) (by decide +kernel), by decide⟩, by decide, by decide, by decide +kernel⟩
theorem cwX8_play (own : String) (idx : Nat) : mi_cw pP own idx kX8_play 1 := ⟨⟨pT_mem 832 (by decide +kernel) (by decide +kernel), pT_mem 40 (by decide +kernel) (by decide +kernel), by decide⟩, by decide, by decide, by decide +kernel⟩
theorem cwX8_many (own : String) (idx : Nat) : mi_cw pP own idx kX8_many 1 := ⟨⟨pT_mem 307 (by decide +kernel) (by decide +kernel), pT_mem 40 (by decide +kernel) (by decide +kernel), by decide⟩, by decide, by decide, by decide +kernel⟩
theorem cwX8_wouldTake (own : String) (idx : Nat) : mi_cw pP own idx kX8_wouldTake 2 := ⟨⟨pT_mem 854 (by decide +kernel) (by decide +kernel), pT_mem 40 (by decide +kernel) (by decide +kernel), by decide⟩, by decide, by decide, by decide +kernel⟩
theorem cwX8_wouldMend (own : String) (idx : Nat) : mi_cw pP own idx kX8_wouldMend 2 := ⟨⟨pT_mem 867 (by decide +kernel) (by decide +kernel), pT_mem 40 (by decide +kernel) (by decide +kernel), by decide⟩, by decide, by decide, by decide +kernel⟩
theorem cwX8_digest (own : String) (idx : Nat) : mi_cw pP own idx kX8_digest 0 := ⟨⟨pT_mem 301 (by decide +kernel) (by decide +kernel), pT_mem 40 (by decide +kernel) (by decide +kernel), by decide⟩, by decide, by decide, by decide +kernel⟩
theorem cwX8_digestTracks (own : String) (idx : Nat) : mi_cw pP own idx kX8_digestTracks 1 := ⟨⟨pT_mem 383 (by decide +kernel) (by decide +kernel), pT_mem 40 (by decide +kernel) (by decide +kernel), by decide⟩, by decide, by decide, by decide +kernel⟩
theorem cwX8_digestSectors (own : String) (idx : Nat) : mi_cw pP own idx kX8_digestSectors 1 := ⟨⟨pT_mem 423 (by decide +kernel) (by decide +kernel), pT_mem 40 (by decide +kernel) (by decide +kernel), by decide⟩, by decide, by decide, by decide +kernel⟩
theorem cwX8_digestFiles (own : String) (idx : Nat) : mi_cw pP own idx kX8_digestFiles 1 := ⟨⟨pT_mem 490 (by decide +kernel) (by decide +kernel), pT_mem 40 (by decide +kernel) (by decide +kernel), by decide⟩, by decide, by decide, by decide +kernel⟩
theorem cwX8_isSector (own : String) (idx : Nat) : mi_cw pP own idx kX8_isSector 1 := ⟨⟨pT_mem 418 (by decide +kernel) (by decide +kernel), pT_mem 40 (by decide +kernel) (by decide +kernel), by decide⟩, by decide, by decide, by decide +kernel⟩
theorem cwX8_checkSector (own : String) (idx : Nat) : mi_cw pP own idx kX8_checkSector 1 := ⟨⟨pT_mem 430 (by decide +kernel) (by decide +kernel), pT_mem 40 (by decide +kernel) (by decide +kernel), by decide⟩, by decide, by decide, by decide +kernel⟩
theorem cwX8_checkFile (own : String) (idx : Nat) : mi_cw pP own idx kX8_checkFile 1 := ⟨⟨pT_mem 497 (by decide +kernel) (by decide +kernel), pT_mem 40 (by decide +kernel) (by decide +kernel), by decide⟩, by decide, by decide, by decide +kernel⟩
theorem cwX8_trackAt (own : String) (idx : Nat) : mi_cw pP own idx kX8_trackAt 1 := ⟨⟨pT_mem 391 (by decide +kernel) (by decide +kernel), pT_mem 40 (by decide +kernel) (by decide +kernel), by decide⟩, by decide, by decide, by decide +kernel⟩
theorem cwX8_left (own : String) (idx : Nat) : mi_cw pP own idx kX8_left 0 := ⟨⟨pT_mem 524 (by decide +kernel) (by decide +kernel), pT_mem 40 (by decide +kernel) (by decide +kernel), by decide⟩, by decide, by decide, by decide +kernel⟩
theorem cwX8_trackOf (own : String) (idx : Nat) : mi_cw pP own idx kX8_trackOf 1 := ⟨⟨pT_mem 435 (by decide +kernel) (by decide +kernel), pT_mem 40 (by decide +kernel) (by decide +kernel), by decide⟩, by decide, by decide, by decide +kernel⟩
theorem cwX8_hasOpenTrack (own : String) (idx : Nat) : mi_cw pP own idx kX8_hasOpenTrack 0 := ⟨⟨pT_mem 689 (by decide +kernel) (by decide +kernel), pT_mem 40 (by decide +kernel) (by decide +kernel), by decide⟩, by decide, by decide, by decide +kernel⟩
theorem cwX8_isGood (own : String) (idx : Nat) : mi_cw pP own idx kX8_isGood 1 := ⟨⟨pT_mem 415 (by decide +kernel) (by decide +kernel), pT_mem 40 (by decide +kernel) (by decide +kernel), by decide⟩, by decide, by decide, by decide +kernel⟩
theorem cwX8_goodFrom (own : String) (idx : Nat) : mi_cw pP own idx kX8_goodFrom 2 := ⟨⟨pT_mem 411 (by decide +kernel) (by decide +kernel), pT_mem 40 (by decide +kernel) (by decide +kernel), by decide⟩, by decide, by decide, by decide +kernel⟩
theorem cwX8_writtenOf (own : String) (idx : Nat) : mi_cw pP own idx kX8_writtenOf 1 := ⟨⟨pT_mem 311 (by decide +kernel) (by decide +kernel), pT_mem 40 (by decide +kernel) (by decide +kernel), by decide⟩, by decide, by decide, by decide +kernel⟩
theorem cwX8_sampleBetween (own : String) (idx : Nat) : mi_cw pP own idx kX8_sampleBetween 3 := ⟨⟨pT_mem 841 (by decide +kernel) (by decide +kernel), pT_mem 40 (by decide +kernel) (by decide +kernel), by decide⟩, by decide, by decide, by decide +kernel⟩
theorem cwX0_init (own : String) (idx : Nat) : mi_cw pP own idx kX0_init 0 := ⟨⟨pT_mem 126 (by decide +kernel) (by decide +kernel), pT_mem 43 (by decide +kernel) (by decide +kernel), by decide⟩, by decide, by decide, by decide +kernel⟩
theorem cwX1_init (own : String) (idx : Nat) : mi_cw pP own idx kX1_init 0 := ⟨⟨pT_mem 132 (by decide +kernel) (by decide +kernel), pT_mem 44 (by decide +kernel) (by decide +kernel), by decide⟩, by decide, by decide, by decide +kernel⟩
theorem cwX1_valueAt (own : String) (idx : Nat) : mi_cw pP own idx kX1_valueAt 1 := ⟨⟨pT_mem 482 (by decide +kernel) (by decide +kernel), pT_mem 44 (by decide +kernel) (by decide +kernel), by decide⟩, by decide, by decide, by decide +kernel⟩
theorem cwX1_isErased (own : String) (idx : Nat) : mi_cw pP own idx kX1_isErased 1 := ⟨⟨pT_mem 729 (by decide +kernel) (by decide +kernel), pT_mem 44 (by decide +kernel) (by decide +kernel), by decide⟩, by decide, by decide, by decide +kernel⟩
theorem cwX1_put (own : String) (idx : Nat) : mi_cw pP own idx kX1_put 2 := ⟨⟨pT_mem 592 (by decide +kernel) (by decide +kernel), pT_mem 44 (by decide +kernel) (by decide +kernel), by decide⟩, by decide, by decide, by decide +kernel⟩
theorem cwX1_erase (own : String) (idx : Nat) : mi_cw pP own idx kX1_erase 1 := ⟨⟨pT_mem 725 (by decide +kernel) (by decide +kernel), pT_mem 44 (by decide +kernel) (by decide +kernel), by decide⟩, by decide, by decide, by decide +kernel⟩
theorem cwX1_copyFrom (own : String) (idx : Nat) : mi_cw pP own idx kX1_copyFrom 1 := ⟨⟨pT_mem 606 (by decide +kernel) (by decide +kernel), pT_mem 44 (by decide +kernel) (by decide +kernel), by decide⟩, by decide, by decide, by decide +kernel⟩
theorem cwX1_spread (own : String) (idx : Nat) : mi_cw pP own idx kX1_spread 1 := ⟨⟨pT_mem 588 (by decide +kernel) (by decide +kernel), pT_mem 44 (by decide +kernel) (by decide +kernel), by decide⟩, by decide, by decide, by decide +kernel⟩
theorem cwX1_gathered (own : String) (idx : Nat) : mi_cw pP own idx kX1_gathered 0 := ⟨⟨pT_mem 475 (by decide +kernel) (by decide +kernel), pT_mem 44 (by decide +kernel) (by decide +kernel), by decide⟩, by decide, by decide, by decide +kernel⟩
theorem cwX1_mend (own : String) (idx : Nat) : mi_cw pP own idx kX1_mend 0 := ⟨⟨pT_mem 610 (by decide +kernel) (by decide +kernel), pT_mem 44 (by decide +kernel) (by decide +kernel), by decide⟩, by decide, by decide, by decide +kernel⟩
theorem cwX1_isEven (own : String) (idx : Nat) : mi_cw pP own idx kX1_isEven 0 := ⟨⟨pT_mem 633 (by decide +kernel) (by decide +kernel), pT_mem 44 (by decide +kernel) (by decide +kernel), by decide⟩, by decide, by decide, by decide +kernel⟩
theorem cwX1_fillErased (own : String) (idx : Nat) : mi_cw pP own idx kX1_fillErased 0 := ⟨⟨pT_mem 614 (by decide +kernel) (by decide +kernel), pT_mem 44 (by decide +kernel) (by decide +kernel), by decide⟩, by decide, by decide, by decide +kernel⟩
theorem cwX1_onlyOddOf (own : String) (idx : Nat) : mi_cw pP own idx kX1_onlyOddOf 1 := ⟨⟨pT_mem 625 (by decide +kernel) (by decide +kernel), pT_mem 44 (by decide +kernel) (by decide +kernel), by decide⟩, by decide, by decide, by decide +kernel⟩
theorem cwX1_parityOf (own : String) (idx : Nat) : mi_cw pP own idx kX1_parityOf 1 := ⟨⟨pT_mem 598 (by decide +kernel) (by decide +kernel), pT_mem 44 (by decide +kernel) (by decide +kernel), by decide⟩, by decide, by decide, by decide +kernel⟩
theorem cwX1_placeOf (own : String) (idx : Nat) : mi_cw pP own idx kX1_placeOf 1 := ⟨⟨pT_mem 478 (by decide +kernel) (by decide +kernel), pT_mem 44 (by decide +kernel) (by decide +kernel), by decide⟩, by decide, by decide, by decide +kernel⟩
theorem cwX2_init (own : String) (idx : Nat) : mi_cw pP own idx kX2_init 0 := ⟨⟨pT_mem 99 (by decide +kernel) (by decide +kernel), pT_mem 42 (by decide +kernel) (by decide +kernel), by decide⟩, by decide, by decide, by decide +kernel⟩
theorem cwX2_seekTime (own : String) (idx : Nat) : mi_cw pP own idx kX2_seekTime 2 := ⟨⟨pT_mem 762 (by decide +kernel) (by decide +kernel), pT_mem 42 (by decide +kernel) (by decide +kernel), by decide⟩, by decide, by decide, by decide +kernel⟩
theorem cwX2_restOfTurn (own : String) (idx : Nat) : mi_cw pP own idx kX2_restOfTurn 1 := ⟨⟨pT_mem 771 (by decide +kernel) (by decide +kernel), pT_mem 42 (by decide +kernel) (by decide +kernel), by decide⟩, by decide, by decide, by decide +kernel⟩
theorem cwX2_clockBehind (own : String) (idx : Nat) : mi_cw pP own idx kX2_clockBehind 3 := ⟨⟨pT_mem 759 (by decide +kernel) (by decide +kernel), pT_mem 42 (by decide +kernel) (by decide +kernel), by decide⟩, by decide, by decide, by decide +kernel⟩
theorem cwX2_headBehind (own : String) (idx : Nat) : mi_cw pP own idx kX2_headBehind 1 := ⟨⟨pT_mem 781 (by decide +kernel) (by decide +kernel), pT_mem 42 (by decide +kernel) (by decide +kernel), by decide⟩, by decide, by decide, by decide +kernel⟩
theorem cwX2_passOver (own : String) (idx : Nat) : mi_cw pP own idx kX2_passOver 1 := ⟨⟨pT_mem 756 (by decide +kernel) (by decide +kernel), pT_mem 42 (by decide +kernel) (by decide +kernel), by decide⟩, by decide, by decide, by decide +kernel⟩
theorem cwX2_timeOver (own : String) (idx : Nat) : mi_cw pP own idx kX2_timeOver 2 := ⟨⟨pT_mem 860 (by decide +kernel) (by decide +kernel), pT_mem 42 (by decide +kernel) (by decide +kernel), by decide⟩, by decide, by decide, by decide +kernel⟩
theorem cwX3_init (own : String) (idx : Nat) : mi_cw pP own idx kX3_init 0 := ⟨⟨pT_mem 83 (by decide +kernel) (by decide +kernel), pT_mem 41 (by decide +kernel) (by decide +kernel), by decide⟩, by decide, by decide, by decide +kernel⟩
theorem cwX3_tell (own : String) (idx : Nat) : mi_cw pP own idx kX3_tell 4 := ⟨⟨pT_mem 704 (by decide +kernel) (by decide +kernel), pT_mem 41 (by decide +kernel) (by decide +kernel), by decide⟩, by decide, by decide, by decide +kernel⟩
theorem cwX3_tellerOf (own : String) (idx : Nat) : mi_cw pP own idx kX3_tellerOf 2 := ⟨⟨pT_mem 504 (by decide +kernel) (by decide +kernel), pT_mem 41 (by decide +kernel) (by decide +kernel), by decide⟩, by decide, by decide, by decide +kernel⟩
theorem cwX3_firstOf (own : String) (idx : Nat) : mi_cw pP own idx kX3_firstOf 2 := ⟨⟨pT_mem 508 (by decide +kernel) (by decide +kernel), pT_mem 41 (by decide +kernel) (by decide +kernel), by decide⟩, by decide, by decide, by decide +kernel⟩
theorem cwX3_lengthOf (own : String) (idx : Nat) : mi_cw pP own idx kX3_lengthOf 2 := ⟨⟨pT_mem 512 (by decide +kernel) (by decide +kernel), pT_mem 41 (by decide +kernel) (by decide +kernel), by decide⟩, by decide, by decide, by decide +kernel⟩
theorem cwX4_init (own : String) (idx : Nat) : mi_cw pP own idx kX4_init 0 := ⟨⟨pT_mem 147 (by decide +kernel) (by decide +kernel), pT_mem 45 (by decide +kernel) (by decide +kernel), by decide⟩, by decide, by decide, by decide +kernel⟩
theorem cwX4_mark (own : String) (idx : Nat) : mi_cw pP own idx kX4_mark 1 := ⟨⟨pT_mem 637 (by decide +kernel) (by decide +kernel), pT_mem 45 (by decide +kernel) (by decide +kernel), by decide⟩, by decide, by decide, by decide +kernel⟩
theorem cwX4_isJoined (own : String) (idx : Nat) : mi_cw pP own idx kX4_isJoined 2 := ⟨⟨pT_mem 644 (by decide +kernel) (by decide +kernel), pT_mem 45 (by decide +kernel) (by decide +kernel), by decide⟩, by decide, by decide, by decide +kernel⟩
theorem cwX4_dsvBehind (own : String) (idx : Nat) : mi_cw pP own idx kX4_dsvBehind 1 := ⟨⟨pT_mem 648 (by decide +kernel) (by decide +kernel), pT_mem 45 (by decide +kernel) (by decide +kernel), by decide⟩, by decide, by decide, by decide +kernel⟩
theorem cwX4_putBits (own : String) (idx : Nat) : mi_cw pP own idx kX4_putBits 1 := ⟨⟨pT_mem 655 (by decide +kernel) (by decide +kernel), pT_mem 45 (by decide +kernel) (by decide +kernel), by decide⟩, by decide, by decide, by decide +kernel⟩
theorem cwX5_init (own : String) (idx : Nat) : mi_cw pP own idx kX5_init 1 := ⟨⟨pT_mem 178 (by decide +kernel) (by decide +kernel), pT_mem 46 (by decide +kernel) (by decide +kernel), by decide⟩, by decide, by decide, by decide +kernel⟩
theorem cwX5_fillWith (own : String) (idx : Nat) : mi_cw pP own idx kX5_fillWith 3 := ⟨⟨pT_mem 578 (by decide +kernel) (by decide +kernel), pT_mem 46 (by decide +kernel) (by decide +kernel), by decide⟩, by decide, by decide, by decide +kernel⟩
theorem cwX5_eraseColumn (own : String) (idx : Nat) : mi_cw pP own idx kX5_eraseColumn 3 := ⟨⟨pT_mem 721 (by decide +kernel) (by decide +kernel), pT_mem 46 (by decide +kernel) (by decide +kernel), by decide⟩, by decide, by decide, by decide +kernel⟩
theorem cwX5_makeWrong (own : String) (idx : Nat) : mi_cw pP own idx kX5_makeWrong 3 := ⟨⟨pT_mem 741 (by decide +kernel) (by decide +kernel), pT_mem 46 (by decide +kernel) (by decide +kernel), by decide⟩, by decide, by decide, by decide +kernel⟩
theorem cwX5_raw (own : String) (idx : Nat) : mi_cw pP own idx kX5_raw 0 := ⟨⟨pT_mem 471 (by decide +kernel) (by decide +kernel), pT_mem 46 (by decide +kernel) (by decide +kernel), by decide⟩, by decide, by decide, by decide +kernel⟩
theorem cwX5_sample (own : String) (idx : Nat) : mi_cw pP own idx kX5_sample 0 := ⟨⟨pT_mem 837 (by decide +kernel) (by decide +kernel), pT_mem 46 (by decide +kernel) (by decide +kernel), by decide⟩, by decide, by decide, by decide +kernel⟩
theorem cwX5_stateWithout (own : String) (idx : Nat) : mi_cw pP own idx kX5_stateWithout 2 := ⟨⟨pT_mem 873 (by decide +kernel) (by decide +kernel), pT_mem 46 (by decide +kernel) (by decide +kernel), by decide⟩, by decide, by decide, by decide +kernel⟩
theorem cwX5_reckon (own : String) (idx : Nat) : mi_cw pP own idx kX5_reckon 1 := ⟨⟨pT_mem 602 (by decide +kernel) (by decide +kernel), pT_mem 46 (by decide +kernel) (by decide +kernel), by decide⟩, by decide, by decide, by decide +kernel⟩
theorem cwX5_judged (own : String) (idx : Nat) : mi_cw pP own idx kX5_judged 1 := ⟨⟨pT_mem 629 (by decide +kernel) (by decide +kernel), pT_mem 46 (by decide +kernel) (by decide +kernel), by decide⟩, by decide, by decide, by decide +kernel⟩
theorem cwX5_mixed (own : String) (idx : Nat) : mi_cw pP own idx kX5_mixed 1 := ⟨⟨pT_mem 486 (by decide +kernel) (by decide +kernel), pT_mem 46 (by decide +kernel) (by decide +kernel), by decide⟩, by decide, by decide, by decide +kernel⟩
theorem cwX5_sumOf (own : String) (idx : Nat) : mi_cw pP own idx kX5_sumOf 1 := ⟨⟨pT_mem 581 (by decide +kernel) (by decide +kernel), pT_mem 46 (by decide +kernel) (by decide +kernel), by decide⟩, by decide, by decide, by decide +kernel⟩
theorem cwX5_nibbleOf (own : String) (idx : Nat) : mi_cw pP own idx kX5_nibbleOf 2 := ⟨⟨pT_mem 584 (by decide +kernel) (by decide +kernel), pT_mem 46 (by decide +kernel) (by decide +kernel), by decide⟩, by decide, by decide, by decide +kernel⟩
theorem cwX6_zoneOf (own : String) (idx : Nat) : mi_cw pP own idx kX6_zoneOf 1 := ⟨⟨pT_mem 455 (by decide +kernel) (by decide +kernel), pT_mem 66 (by decide +kernel) (by decide +kernel), by decide⟩, by decide, by decide, by decide +kernel⟩
theorem cwX6_turnOf (own : String) (idx : Nat) : mi_cw pP own idx kX6_turnOf 1 := ⟨⟨pT_mem 452 (by decide +kernel) (by decide +kernel), pT_mem 66 (by decide +kernel) (by decide +kernel), by decide⟩, by decide, by decide, by decide +kernel⟩
theorem cwX6_angleOf (own : String) (idx : Nat) : mi_cw pP own idx kX6_angleOf 1 := ⟨⟨pT_mem 716 (by decide +kernel) (by decide +kernel), pT_mem 66 (by decide +kernel) (by decide +kernel), by decide⟩, by decide, by decide, by decide +kernel⟩
theorem cwX6_speedOf (own : String) (idx : Nat) : mi_cw pP own idx kX6_speedOf 1 := ⟨⟨pT_mem 776 (by decide +kernel) (by decide +kernel), pT_mem 66 (by decide +kernel) (by decide +kernel), by decide⟩, by decide, by decide, by decide +kernel⟩
theorem cwX6_positionOf (own : String) (idx : Nat) : mi_cw pP own idx kX6_positionOf 1 := ⟨⟨pT_mem 462 (by decide +kernel) (by decide +kernel), pT_mem 66 (by decide +kernel) (by decide +kernel), by decide⟩, by decide, by decide, by decide +kernel⟩
theorem cwX7_init (own : String) (idx : Nat) : mi_cw pP own idx kX7_init 0 := ⟨⟨pT_mem 224 (by decide +kernel) (by decide +kernel), pT_mem 47 (by decide +kernel) (by decide +kernel), by decide⟩, by decide, by decide, by decide +kernel⟩
theorem cwX7_reserve (own : String) (idx : Nat) : mi_cw pP own idx kX7_reserve 4 := ⟨⟨pT_mem 554 (by decide +kernel) (by decide +kernel), pT_mem 47 (by decide +kernel) (by decide +kernel), by decide⟩, by decide, by decide, by decide +kernel⟩
theorem cwX7_behind (own : String) (idx : Nat) : mi_cw pP own idx kX7_behind 0 := ⟨⟨pT_mem 443 (by decide +kernel) (by decide +kernel), pT_mem 47 (by decide +kernel) (by decide +kernel), by decide⟩, by decide, by decide, by decide +kernel⟩
theorem cwX7_holds (own : String) (idx : Nat) : mi_cw pP own idx kX7_holds 1 := ⟨⟨pT_mem 439 (by decide +kernel) (by decide +kernel), pT_mem 47 (by decide +kernel) (by decide +kernel), by decide⟩, by decide, by decide, by decide +kernel⟩
theorem cwX7_hasRoom (own : String) (idx : Nat) : mi_cw pP own idx kX7_hasRoom 0 := ⟨⟨pT_mem 569 (by decide +kernel) (by decide +kernel), pT_mem 47 (by decide +kernel) (by decide +kernel), by decide⟩, by decide, by decide, by decide +kernel⟩
theorem cwX7_takeNext (own : String) (idx : Nat) : mi_cw pP own idx kX7_takeNext 0 := ⟨⟨pT_mem 574 (by decide +kernel) (by decide +kernel), pT_mem 47 (by decide +kernel) (by decide +kernel), by decide⟩, by decide, by decide, by decide +kernel⟩
theorem cwX7_giveBack (own : String) (idx : Nat) : mi_cw pP own idx kX7_giveBack 0 := ⟨⟨pT_mem 678 (by decide +kernel) (by decide +kernel), pT_mem 47 (by decide +kernel) (by decide +kernel), by decide⟩, by decide, by decide, by decide +kernel⟩
theorem cwX9_init (own : String) (idx : Nat) : mi_cw pP own idx kX9_init 0 := ⟨⟨pT_mem 878 (by decide +kernel) (by decide +kernel), pT_mem 48 (by decide +kernel) (by decide +kernel), by decide⟩, by decide, by decide, by decide +kernel⟩
theorem cwX9_thrown (own : String) (idx : Nat) : mi_cw pP own idx kX9_thrown 0 := ⟨⟨pT_mem 959 (by decide +kernel) (by decide +kernel), pT_mem 48 (by decide +kernel) (by decide +kernel), by decide⟩, by decide, by decide, by decide +kernel⟩
theorem cwX9_refuse (own : String) (idx : Nat) : mi_cw pP own idx kX9_refuse 2 := ⟨⟨pT_mem 971 (by decide +kernel) (by decide +kernel), pT_mem 48 (by decide +kernel) (by decide +kernel), by decide⟩, by decide, by decide, by decide +kernel⟩
theorem cwX9_start (own : String) (idx : Nat) : mi_cw pP own idx kX9_start 2 := ⟨⟨pT_mem 967 (by decide +kernel) (by decide +kernel), pT_mem 48 (by decide +kernel) (by decide +kernel), by decide⟩, by decide, by decide, by decide +kernel⟩
theorem cwX9_isIn (own : String) (idx : Nat) : mi_cw pP own idx kX9_isIn 3 := ⟨⟨pT_mem 978 (by decide +kernel) (by decide +kernel), pT_mem 48 (by decide +kernel) (by decide +kernel), by decide⟩, by decide, by decide, by decide +kernel⟩
theorem cwX9_one (own : String) (idx : Nat) : mi_cw pP own idx kX9_one 1 := ⟨⟨pT_mem 1241 (by decide +kernel) (by decide +kernel), pT_mem 48 (by decide +kernel) (by decide +kernel), by decide⟩, by decide, by decide, by decide +kernel⟩
theorem cwX9_isNoTrack (own : String) (idx : Nat) : mi_cw pP own idx kX9_isNoTrack 1 := ⟨⟨pT_mem 1047 (by decide +kernel) (by decide +kernel), pT_mem 48 (by decide +kernel) (by decide +kernel), by decide⟩, by decide, by decide, by decide +kernel⟩
theorem cwX9_isNoSector (own : String) (idx : Nat) : mi_cw pP own idx kX9_isNoSector 1 := ⟨⟨pT_mem 1148 (by decide +kernel) (by decide +kernel), pT_mem 48 (by decide +kernel) (by decide +kernel), by decide⟩, by decide, by decide, by decide +kernel⟩
theorem cwX9_mask (own : String) (idx : Nat) : mi_cw pP own idx kX9_mask 2 := ⟨⟨pT_mem 1076 (by decide +kernel) (by decide +kernel), pT_mem 48 (by decide +kernel) (by decide +kernel), by decide⟩, by decide, by decide, by decide +kernel⟩
theorem cwX9_placeOf (own : String) (idx : Nat) : mi_cw pP own idx kX9_placeOf 1 := ⟨⟨pT_mem 1072 (by decide +kernel) (by decide +kernel), pT_mem 48 (by decide +kernel) (by decide +kernel), by decide⟩, by decide, by decide, by decide +kernel⟩
theorem cwX9_blockOf (own : String) (idx : Nat) : mi_cw pP own idx kX9_blockOf 2 := ⟨⟨pT_mem 1069 (by decide +kernel) (by decide +kernel), pT_mem 48 (by decide +kernel) (by decide +kernel), by decide⟩, by decide, by decide, by decide +kernel⟩
theorem cwX9_nibblesOf (own : String) (idx : Nat) : mi_cw pP own idx kX9_nibblesOf 2 := ⟨⟨pT_mem 1216 (by decide +kernel) (by decide +kernel), pT_mem 48 (by decide +kernel) (by decide +kernel), by decide⟩, by decide, by decide, by decide +kernel⟩
theorem cwX9_sumOf (own : String) (idx : Nat) : mi_cw pP own idx kX9_sumOf 1 := ⟨⟨pT_mem 1079 (by decide +kernel) (by decide +kernel), pT_mem 48 (by decide +kernel) (by decide +kernel), by decide⟩, by decide, by decide, by decide +kernel⟩
theorem cwX9_at (own : String) (idx : Nat) : mi_cw pP own idx kX9_at 2 := ⟨⟨pT_mem 1210 (by decide +kernel) (by decide +kernel), pT_mem 48 (by decide +kernel) (by decide +kernel), by decide⟩, by decide, by decide, by decide +kernel⟩
theorem cwX9_parity (own : String) (idx : Nat) : mi_cw pP own idx kX9_parity 2 := ⟨⟨pT_mem 1213 (by decide +kernel) (by decide +kernel), pT_mem 48 (by decide +kernel) (by decide +kernel), by decide⟩, by decide, by decide, by decide +kernel⟩
theorem cwX9_fill (own : String) (idx : Nat) : mi_cw pP own idx kX9_fill 2 := ⟨⟨pT_mem 1207 (by decide +kernel) (by decide +kernel), pT_mem 48 (by decide +kernel) (by decide +kernel), by decide⟩, by decide, by decide, by decide +kernel⟩
theorem cwX9_mended (own : String) (idx : Nat) : mi_cw pP own idx kX9_mended 1 := ⟨⟨pT_mem 1203 (by decide +kernel) (by decide +kernel), pT_mem 48 (by decide +kernel) (by decide +kernel), by decide⟩, by decide, by decide, by decide +kernel⟩
theorem cwX9_worth (own : String) (idx : Nat) : mi_cw pP own idx kX9_worth 2 := ⟨⟨pT_mem 1200 (by decide +kernel) (by decide +kernel), pT_mem 48 (by decide +kernel) (by decide +kernel), by decide⟩, by decide, by decide, by decide +kernel⟩
theorem cwX9_worth_ (own : String) (idx : Nat) : mi_cw pP own idx kX9_worth_ 1 := ⟨⟨pT_mem 1196 (by decide +kernel) (by decide +kernel), pT_mem 48 (by decide +kernel) (by decide +kernel), by decide⟩, by decide, by decide, by decide +kernel⟩
theorem cwX9_isGood (own : String) (idx : Nat) : mi_cw pP own idx kX9_isGood 1 := ⟨⟨pT_mem 1277 (by decide +kernel) (by decide +kernel), pT_mem 48 (by decide +kernel) (by decide +kernel), by decide⟩, by decide, by decide, by decide +kernel⟩
theorem cwX9_bit (own : String) (idx : Nat) : mi_cw pP own idx kX9_bit 2 := ⟨⟨pT_mem 1252 (by decide +kernel) (by decide +kernel), pT_mem 48 (by decide +kernel) (by decide +kernel), by decide⟩, by decide, by decide, by decide +kernel⟩
theorem cwX9_after (own : String) (idx : Nat) : mi_cw pP own idx kX9_after 3 := ⟨⟨pT_mem 1249 (by decide +kernel) (by decide +kernel), pT_mem 48 (by decide +kernel) (by decide +kernel), by decide⟩, by decide, by decide, by decide +kernel⟩
theorem cwX9_marks (own : String) (idx : Nat) : mi_cw pP own idx kX9_marks 1 := ⟨⟨pT_mem 1244 (by decide +kernel) (by decide +kernel), pT_mem 48 (by decide +kernel) (by decide +kernel), by decide⟩, by decide, by decide, by decide +kernel⟩
theorem cwX9_session (own : String) (idx : Nat) : mi_cw pP own idx kX9_session 0 := ⟨⟨pT_mem 963 (by decide +kernel) (by decide +kernel), pT_mem 48 (by decide +kernel) (by decide +kernel), by decide⟩, by decide, by decide, by decide +kernel⟩
theorem cwX9_track (own : String) (idx : Nat) : mi_cw pP own idx kX9_track 2 := ⟨⟨pT_mem 975 (by decide +kernel) (by decide +kernel), pT_mem 48 (by decide +kernel) (by decide +kernel), by decide⟩, by decide, by decide, by decide +kernel⟩
theorem cwX9_isDone (own : String) (idx : Nat) : mi_cw pP own idx kX9_isDone 1 := ⟨⟨pT_mem 1052 (by decide +kernel) (by decide +kernel), pT_mem 48 (by decide +kernel) (by decide +kernel), by decide⟩, by decide, by decide, by decide +kernel⟩
theorem cwX9_write (own : String) (idx : Nat) : mi_cw pP own idx kX9_write 2 := ⟨⟨pT_mem 1043 (by decide +kernel) (by decide +kernel), pT_mem 48 (by decide +kernel) (by decide +kernel), by decide⟩, by decide, by decide, by decide +kernel⟩
theorem cwX9_starve (own : String) (idx : Nat) : mi_cw pP own idx kX9_starve 1 := ⟨⟨pT_mem 1083 (by decide +kernel) (by decide +kernel), pT_mem 48 (by decide +kernel) (by decide +kernel), by decide⟩, by decide, by decide, by decide +kernel⟩
theorem cwX9_close (own : String) (idx : Nat) : mi_cw pP own idx kX9_close 1 := ⟨⟨pT_mem 1087 (by decide +kernel) (by decide +kernel), pT_mem 48 (by decide +kernel) (by decide +kernel), by decide⟩, by decide, by decide, by decide +kernel⟩
theorem cwX9_end (own : String) (idx : Nat) : mi_cw pP own idx kX9_end 0 := ⟨⟨pT_mem 1091 (by decide +kernel) (by decide +kernel), pT_mem 48 (by decide +kernel) (by decide +kernel), by decide⟩, by decide, by decide, by decide +kernel⟩
theorem cwX9_isNoFile (own : String) (idx : Nat) : mi_cw pP own idx kX9_isNoFile 1 := ⟨⟨pT_mem 1145 (by decide +kernel) (by decide +kernel), pT_mem 48 (by decide +kernel) (by decide +kernel), by decide⟩, by decide, by decide, by decide +kernel⟩
theorem cwX9_file (own : String) (idx : Nat) : mi_cw pP own idx kX9_file 3 := ⟨⟨pT_mem 1141 (by decide +kernel) (by decide +kernel), pT_mem 48 (by decide +kernel) (by decide +kernel), by decide⟩, by decide, by decide, by decide +kernel⟩
theorem cwX9_turnOf (own : String) (idx : Nat) : mi_cw pP own idx kX9_turnOf 1 := ⟨⟨pT_mem 1155 (by decide +kernel) (by decide +kernel), pT_mem 48 (by decide +kernel) (by decide +kernel), by decide⟩, by decide, by decide, by decide +kernel⟩
theorem cwX9_angleOf (own : String) (idx : Nat) : mi_cw pP own idx kX9_angleOf 1 := ⟨⟨pT_mem 1158 (by decide +kernel) (by decide +kernel), pT_mem 48 (by decide +kernel) (by decide +kernel), by decide⟩, by decide, by decide, by decide +kernel⟩
theorem cwX9_scratch (own : String) (idx : Nat) : mi_cw pP own idx kX9_scratch 4 := ⟨⟨pT_mem 1152 (by decide +kernel) (by decide +kernel), pT_mem 48 (by decide +kernel) (by decide +kernel), by decide⟩, by decide, by decide, by decide +kernel⟩
theorem cwX9_rot (own : String) (idx : Nat) : mi_cw pP own idx kX9_rot 1 := ⟨⟨pT_mem 1163 (by decide +kernel) (by decide +kernel), pT_mem 48 (by decide +kernel) (by decide +kernel), by decide⟩, by decide, by decide, by decide +kernel⟩
theorem cwX9_tray (own : String) (idx : Nat) : mi_cw pP own idx kX9_tray 1 := ⟨⟨pT_mem 1167 (by decide +kernel) (by decide +kernel), pT_mem 48 (by decide +kernel) (by decide +kernel), by decide⟩, by decide, by decide, by decide +kernel⟩
theorem cwX9_push (own : String) (idx : Nat) : mi_cw pP own idx kX9_push 0 := ⟨⟨pT_mem 1171 (by decide +kernel) (by decide +kernel), pT_mem 48 (by decide +kernel) (by decide +kernel), by decide⟩, by decide, by decide, by decide +kernel⟩
theorem cwX9_seekFrom (own : String) (idx : Nat) : mi_cw pP own idx kX9_seekFrom 2 := ⟨⟨pT_mem 1178 (by decide +kernel) (by decide +kernel), pT_mem 48 (by decide +kernel) (by decide +kernel), by decide⟩, by decide, by decide, by decide +kernel⟩
theorem cwX9_readOf (own : String) (idx : Nat) : mi_cw pP own idx kX9_readOf 1 := ⟨⟨pT_mem 1185 (by decide +kernel) (by decide +kernel), pT_mem 48 (by decide +kernel) (by decide +kernel), by decide⟩, by decide, by decide, by decide +kernel⟩
theorem cwX9_behind (own : String) (idx : Nat) : mi_cw pP own idx kX9_behind 1 := ⟨⟨pT_mem 1191 (by decide +kernel) (by decide +kernel), pT_mem 48 (by decide +kernel) (by decide +kernel), by decide⟩, by decide, by decide, by decide +kernel⟩
theorem cwX9_read (own : String) (idx : Nat) : mi_cw pP own idx kX9_read 1 := ⟨⟨pT_mem 1175 (by decide +kernel) (by decide +kernel), pT_mem 48 (by decide +kernel) (by decide +kernel), by decide⟩, by decide, by decide, by decide +kernel⟩
theorem cwX9_seek (own : String) (idx : Nat) : mi_cw pP own idx kX9_seek 1 := ⟨⟨pT_mem 1222 (by decide +kernel) (by decide +kernel), pT_mem 48 (by decide +kernel) (by decide +kernel), by decide⟩, by decide, by decide, by decide +kernel⟩
theorem cwX9_clock (own : String) (idx : Nat) : mi_cw pP own idx kX9_clock 0 := ⟨⟨pT_mem 1226 (by decide +kernel) (by decide +kernel), pT_mem 48 (by decide +kernel) (by decide +kernel), by decide⟩, by decide, by decide, by decide +kernel⟩
theorem cwX9_angle (own : String) (idx : Nat) : mi_cw pP own idx kX9_angle 1 := ⟨⟨pT_mem 1230 (by decide +kernel) (by decide +kernel), pT_mem 48 (by decide +kernel) (by decide +kernel), by decide⟩, by decide, by decide, by decide +kernel⟩
theorem cwX9_toldOfSector (own : String) (idx : Nat) : mi_cw pP own idx kX9_toldOfSector 2 := ⟨⟨pT_mem 1238 (by decide +kernel) (by decide +kernel), pT_mem 48 (by decide +kernel) (by decide +kernel), by decide⟩, by decide, by decide, by decide +kernel⟩
theorem cwX9_ofSector (own : String) (idx : Nat) : mi_cw pP own idx kX9_ofSector 2 := ⟨⟨pT_mem 1234 (by decide +kernel) (by decide +kernel), pT_mem 48 (by decide +kernel) (by decide +kernel), by decide⟩, by decide, by decide, by decide +kernel⟩
theorem cwX9_nibblesAt (own : String) (idx : Nat) : mi_cw pP own idx kX9_nibblesAt 2 := ⟨⟨pT_mem 1260 (by decide +kernel) (by decide +kernel), pT_mem 48 (by decide +kernel) (by decide +kernel), by decide⟩, by decide, by decide, by decide +kernel⟩
theorem cwX9_nibbles (own : String) (idx : Nat) : mi_cw pP own idx kX9_nibbles 2 := ⟨⟨pT_mem 1256 (by decide +kernel) (by decide +kernel), pT_mem 48 (by decide +kernel) (by decide +kernel), by decide⟩, by decide, by decide, by decide +kernel⟩
theorem cwX9_place (own : String) (idx : Nat) : mi_cw pP own idx kX9_place 2 := ⟨⟨pT_mem 1265 (by decide +kernel) (by decide +kernel), pT_mem 48 (by decide +kernel) (by decide +kernel), by decide⟩, by decide, by decide, by decide +kernel⟩
theorem cwX9_toldOfTrack (own : String) (idx : Nat) : mi_cw pP own idx kX9_toldOfTrack 2 := ⟨⟨pT_mem 1273 (by decide +kernel) (by decide +kernel), pT_mem 48 (by decide +kernel) (by decide +kernel), by decide⟩, by decide, by decide, by decide +kernel⟩
theorem cwX9_ofTrack (own : String) (idx : Nat) : mi_cw pP own idx kX9_ofTrack 2 := ⟨⟨pT_mem 1269 (by decide +kernel) (by decide +kernel), pT_mem 48 (by decide +kernel) (by decide +kernel), by decide⟩, by decide, by decide, by decide +kernel⟩
theorem cwX9_toldOfFile (own : String) (idx : Nat) : mi_cw pP own idx kX9_toldOfFile 3 := ⟨⟨pT_mem 1285 (by decide +kernel) (by decide +kernel), pT_mem 48 (by decide +kernel) (by decide +kernel), by decide⟩, by decide, by decide, by decide +kernel⟩
theorem cwX9_ofFile (own : String) (idx : Nat) : mi_cw pP own idx kX9_ofFile 3 := ⟨⟨pT_mem 1281 (by decide +kernel) (by decide +kernel), pT_mem 48 (by decide +kernel) (by decide +kernel), by decide⟩, by decide, by decide, by decide +kernel⟩
theorem cwX9_sample (own : String) (idx : Nat) : mi_cw pP own idx kX9_sample 1 := ⟨⟨pT_mem 1293 (by decide +kernel) (by decide +kernel), pT_mem 48 (by decide +kernel) (by decide +kernel), by decide⟩, by decide, by decide, by decide +kernel⟩
theorem cwX9_isHeard (own : String) (idx : Nat) : mi_cw pP own idx kX9_isHeard 2 := ⟨⟨pT_mem 1297 (by decide +kernel) (by decide +kernel), pT_mem 48 (by decide +kernel) (by decide +kernel), by decide⟩, by decide, by decide, by decide +kernel⟩
theorem cwX9_play (own : String) (idx : Nat) : mi_cw pP own idx kX9_play 1 := ⟨⟨pT_mem 1289 (by decide +kernel) (by decide +kernel), pT_mem 48 (by decide +kernel) (by decide +kernel), by decide⟩, by decide, by decide, by decide +kernel⟩
theorem cwX9_told (own : String) (idx : Nat) : mi_cw pP own idx kX9_told 1 := ⟨⟨pT_mem 1307 (by decide +kernel) (by decide +kernel), pT_mem 48 (by decide +kernel) (by decide +kernel), by decide⟩, by decide, by decide, by decide +kernel⟩
theorem cwX9_many (own : String) (idx : Nat) : mi_cw pP own idx kX9_many 1 := ⟨⟨pT_mem 1303 (by decide +kernel) (by decide +kernel), pT_mem 48 (by decide +kernel) (by decide +kernel), by decide⟩, by decide, by decide, by decide +kernel⟩
theorem cwX9_wouldTake (own : String) (idx : Nat) : mi_cw pP own idx kX9_wouldTake 2 := ⟨⟨pT_mem 1311 (by decide +kernel) (by decide +kernel), pT_mem 48 (by decide +kernel) (by decide +kernel), by decide⟩, by decide, by decide, by decide +kernel⟩
theorem cwX9_wouldMend (own : String) (idx : Nat) : mi_cw pP own idx kX9_wouldMend 2 := ⟨⟨pT_mem 1315 (by decide +kernel) (by decide +kernel), pT_mem 48 (by decide +kernel) (by decide +kernel), by decide⟩, by decide, by decide, by decide +kernel⟩
theorem cwX9_add (own : String) (idx : Nat) : mi_cw pP own idx kX9_add 2 := ⟨⟨pT_mem 1324 (by decide +kernel) (by decide +kernel), pT_mem 48 (by decide +kernel) (by decide +kernel), by decide⟩, by decide, by decide, by decide +kernel⟩
theorem cwX9_digest (own : String) (idx : Nat) : mi_cw pP own idx kX9_digest 0 := ⟨⟨pT_mem 1320 (by decide +kernel) (by decide +kernel), pT_mem 48 (by decide +kernel) (by decide +kernel), by decide⟩, by decide, by decide, by decide +kernel⟩
theorem cwJ6_bitCount_0f7a4 (own : String) (idx : Nat) : mi_cw pP own idx kJ6_bitCount_0f7a4 1 := ⟨⟨pT_mem 446 (by decide +kernel) (by decide +kernel), pT_mem 62 (by decide +kernel) (by decide +kernel), by decide⟩, by decide, by decide, by decide +kernel⟩
theorem cwJ6_numberOfTrailingZeros_0f7a4 (own : String) (idx : Nat) : mi_cw pP own idx kJ6_numberOfTrailingZeros_0f7a4 1 := ⟨⟨pT_mem 620 (by decide +kernel) (by decide +kernel), pT_mem 62 (by decide +kernel) (by decide +kernel), by decide⟩, by decide, by decide, by decide +kernel⟩
theorem cwJ9_abs_0f7a4 (own : String) (idx : Nat) : mi_cw pP own idx kJ9_abs_0f7a4 1 := ⟨⟨pT_mem 651 (by decide +kernel) (by decide +kernel), pT_mem 58 (by decide +kernel) (by decide +kernel), by decide⟩, by decide, by decide, by decide +kernel⟩
theorem cwJ9_max_7cf53 (own : String) (idx : Nat) : mi_cw pP own idx kJ9_max_7cf53 2 := ⟨⟨pT_mem 658 (by decide +kernel) (by decide +kernel), pT_mem 58 (by decide +kernel) (by decide +kernel), by decide⟩, by decide, by decide, by decide +kernel⟩
theorem cwJ9_min_7cf53 (own : String) (idx : Nat) : mi_cw pP own idx kJ9_min_7cf53 2 := ⟨⟨pT_mem 784 (by decide +kernel) (by decide +kernel), pT_mem 58 (by decide +kernel) (by decide +kernel), by decide⟩, by decide, by decide, by decide +kernel⟩
theorem cwJxa1e45_init_da8c8 (own : String) (idx : Nat) : mi_cw pP own idx kJxa1e45_init_da8c8 0 := ⟨⟨pT_mem 891 (by decide +kernel) (by decide +kernel), pT_mem 49 (by decide +kernel) (by decide +kernel), by decide⟩, by decide, by decide, by decide +kernel⟩
theorem cwJxc12de_init_da8c8 (own : String) (idx : Nat) : mi_cw pP own idx kJxc12de_init_da8c8 0 := ⟨⟨pT_mem 888 (by decide +kernel) (by decide +kernel), pT_mem 50 (by decide +kernel) (by decide +kernel), by decide⟩, by decide, by decide, by decide +kernel⟩
theorem cwJx4a65c_init_da8c8 (own : String) (idx : Nat) : mi_cw pP own idx kJx4a65c_init_da8c8 0 := ⟨⟨pT_mem 885 (by decide +kernel) (by decide +kernel), pT_mem 51 (by decide +kernel) (by decide +kernel), by decide⟩, by decide, by decide, by decide +kernel⟩
theorem cwJx4a65c_size_8abf5 (own : String) (idx : Nat) : mi_cw pP own idx kJx4a65c_size_8abf5 0 := ⟨⟨pT_mem 982 (by decide +kernel) (by decide +kernel), pT_mem 51 (by decide +kernel) (by decide +kernel), by decide⟩, by decide, by decide, by decide +kernel⟩
theorem cwJx4a65c_iterator_32c93 (own : String) (idx : Nat) : mi_cw pP own idx kJx4a65c_iterator_32c93 0 := ⟨⟨pT_mem 1095 (by decide +kernel) (by decide +kernel), pT_mem 51 (by decide +kernel) (by decide +kernel), by decide⟩, by decide, by decide, by decide +kernel⟩
theorem cwJx35411_init_45d68 (own : String) (idx : Nat) : mi_cw pP own idx kJx35411_init_45d68 1 := ⟨⟨pT_mem 1100 (by decide +kernel) (by decide +kernel), pT_mem 65 (by decide +kernel) (by decide +kernel), by decide⟩, by decide, by decide, by decide +kernel⟩
theorem cwJx35411_hasNext_aae02 (own : String) (idx : Nat) : mi_cw pP own idx kJx35411_hasNext_aae02 0 := ⟨⟨pT_mem 1124 (by decide +kernel) (by decide +kernel), pT_mem 65 (by decide +kernel) (by decide +kernel), by decide⟩, by decide, by decide, by decide +kernel⟩
theorem ch_RL_91 : mi_cH pP RL 91 kL_session 2 := ⟨⟨pT_mem 515 (by decide +kernel) (by decide +kernel), pT_mem 39 (by decide +kernel) (by decide +kernel), by decide⟩, ⟨by decide, by decide, by decide +kernel⟩, pT_mem 513 (by decide +kernel) (by decide +kernel), pT_mem 514 (by decide +kernel) (by decide +kernel)⟩
theorem ch_RL_100 : mi_cH pP RL 100 kL_track 4 := ⟨⟨pT_mem 543 (by decide +kernel) (by decide +kernel), pT_mem 39 (by decide +kernel) (by decide +kernel), by decide⟩, ⟨by decide, by decide, by decide +kernel⟩, pT_mem 541 (by decide +kernel) (by decide +kernel), pT_mem 542 (by decide +kernel) (by decide +kernel)⟩
theorem ch_RL_106 : mi_cH pP RL 106 kL_write 4 := ⟨⟨pT_mem 558 (by decide +kernel) (by decide +kernel), pT_mem 39 (by decide +kernel) (by decide +kernel), by decide⟩, ⟨by decide, by decide, by decide +kernel⟩, pT_mem 556 (by decide +kernel) (by decide +kernel), pT_mem 557 (by decide +kernel) (by decide +kernel)⟩
theorem ch_RL_110 : mi_cH pP RL 110 kL_starve 3 := ⟨⟨pT_mem 661 (by decide +kernel) (by decide +kernel), pT_mem 39 (by decide +kernel) (by decide +kernel), by decide⟩, ⟨by decide, by decide, by decide +kernel⟩, pT_mem 659 (by decide +kernel) (by decide +kernel), pT_mem 660 (by decide +kernel) (by decide +kernel)⟩
theorem ch_RL_114 : mi_cH pP RL 114 kL_close 3 := ⟨⟨pT_mem 669 (by decide +kernel) (by decide +kernel), pT_mem 39 (by decide +kernel) (by decide +kernel), by decide⟩, ⟨by decide, by decide, by decide +kernel⟩, pT_mem 667 (by decide +kernel) (by decide +kernel), pT_mem 668 (by decide +kernel) (by decide +kernel)⟩
theorem ch_RL_117 : mi_cH pP RL 117 kL_end 2 := ⟨⟨pT_mem 681 (by decide +kernel) (by decide +kernel), pT_mem 39 (by decide +kernel) (by decide +kernel), by decide⟩, ⟨by decide, by decide, by decide +kernel⟩, pT_mem 679 (by decide +kernel) (by decide +kernel), pT_mem 680 (by decide +kernel) (by decide +kernel)⟩
theorem ch_RL_120 : mi_cH pP RL 120 kL_file 5 := ⟨⟨pT_mem 693 (by decide +kernel) (by decide +kernel), pT_mem 39 (by decide +kernel) (by decide +kernel), by decide⟩, ⟨by decide, by decide, by decide +kernel⟩, pT_mem 691 (by decide +kernel) (by decide +kernel), pT_mem 692 (by decide +kernel) (by decide +kernel)⟩
theorem ch_RL_124 : mi_cH pP RL 124 kL_scratch 6 := ⟨⟨pT_mem 707 (by decide +kernel) (by decide +kernel), pT_mem 39 (by decide +kernel) (by decide +kernel), by decide⟩, ⟨by decide, by decide, by decide +kernel⟩, pT_mem 705 (by decide +kernel) (by decide +kernel), pT_mem 706 (by decide +kernel) (by decide +kernel)⟩
theorem ch_RL_128 : mi_cH pP RL 128 kL_rot 3 := ⟨⟨pT_mem 732 (by decide +kernel) (by decide +kernel), pT_mem 39 (by decide +kernel) (by decide +kernel), by decide⟩, ⟨by decide, by decide, by decide +kernel⟩, pT_mem 730 (by decide +kernel) (by decide +kernel), pT_mem 731 (by decide +kernel) (by decide +kernel)⟩
theorem ch_RL_140 : mi_cH pP RL 140 kL_read 3 := ⟨⟨pT_mem 747 (by decide +kernel) (by decide +kernel), pT_mem 39 (by decide +kernel) (by decide +kernel), by decide⟩, ⟨by decide, by decide, by decide +kernel⟩, pT_mem 745 (by decide +kernel) (by decide +kernel), pT_mem 746 (by decide +kernel) (by decide +kernel)⟩
theorem ch_RL_143 : mi_cH pP RL 143 kL_seek 3 := ⟨⟨pT_mem 787 (by decide +kernel) (by decide +kernel), pT_mem 39 (by decide +kernel) (by decide +kernel), by decide⟩, ⟨by decide, by decide, by decide +kernel⟩, pT_mem 785 (by decide +kernel) (by decide +kernel), pT_mem 786 (by decide +kernel) (by decide +kernel)⟩
theorem ch_RL_152 : mi_cH pP RL 152 kL_angle 3 := ⟨⟨pT_mem 795 (by decide +kernel) (by decide +kernel), pT_mem 39 (by decide +kernel) (by decide +kernel), by decide⟩, ⟨by decide, by decide, by decide +kernel⟩, pT_mem 793 (by decide +kernel) (by decide +kernel), pT_mem 794 (by decide +kernel) (by decide +kernel)⟩
theorem ch_RL_155 : mi_cH pP RL 155 kL_ofSector 4 := ⟨⟨pT_mem 802 (by decide +kernel) (by decide +kernel), pT_mem 39 (by decide +kernel) (by decide +kernel), by decide⟩, ⟨by decide, by decide, by decide +kernel⟩, pT_mem 800 (by decide +kernel) (by decide +kernel), pT_mem 801 (by decide +kernel) (by decide +kernel)⟩
theorem ch_RL_158 : mi_cH pP RL 158 kL_nibbles 4 := ⟨⟨pT_mem 806 (by decide +kernel) (by decide +kernel), pT_mem 39 (by decide +kernel) (by decide +kernel), by decide⟩, ⟨by decide, by decide, by decide +kernel⟩, pT_mem 804 (by decide +kernel) (by decide +kernel), pT_mem 805 (by decide +kernel) (by decide +kernel)⟩
theorem ch_RL_162 : mi_cH pP RL 162 kL_place 4 := ⟨⟨pT_mem 810 (by decide +kernel) (by decide +kernel), pT_mem 39 (by decide +kernel) (by decide +kernel), by decide⟩, ⟨by decide, by decide, by decide +kernel⟩, pT_mem 808 (by decide +kernel) (by decide +kernel), pT_mem 809 (by decide +kernel) (by decide +kernel)⟩
theorem ch_RL_165 : mi_cH pP RL 165 kL_ofTrack 4 := ⟨⟨pT_mem 820 (by decide +kernel) (by decide +kernel), pT_mem 39 (by decide +kernel) (by decide +kernel), by decide⟩, ⟨by decide, by decide, by decide +kernel⟩, pT_mem 818 (by decide +kernel) (by decide +kernel), pT_mem 819 (by decide +kernel) (by decide +kernel)⟩
theorem ch_RL_168 : mi_cH pP RL 168 kL_ofFile 5 := ⟨⟨pT_mem 824 (by decide +kernel) (by decide +kernel), pT_mem 39 (by decide +kernel) (by decide +kernel), by decide⟩, ⟨by decide, by decide, by decide +kernel⟩, pT_mem 822 (by decide +kernel) (by decide +kernel), pT_mem 823 (by decide +kernel) (by decide +kernel)⟩
theorem ch_RL_171 : mi_cH pP RL 171 kL_play 3 := ⟨⟨pT_mem 828 (by decide +kernel) (by decide +kernel), pT_mem 39 (by decide +kernel) (by decide +kernel), by decide⟩, ⟨by decide, by decide, by decide +kernel⟩, pT_mem 826 (by decide +kernel) (by decide +kernel), pT_mem 827 (by decide +kernel) (by decide +kernel)⟩
theorem ch_RL_174 : mi_cH pP RL 174 kL_many 3 := ⟨⟨pT_mem 846 (by decide +kernel) (by decide +kernel), pT_mem 39 (by decide +kernel) (by decide +kernel), by decide⟩, ⟨by decide, by decide, by decide +kernel⟩, pT_mem 844 (by decide +kernel) (by decide +kernel), pT_mem 845 (by decide +kernel) (by decide +kernel)⟩
theorem ch_RL_177 : mi_cH pP RL 177 kL_wouldTake 4 := ⟨⟨pT_mem 850 (by decide +kernel) (by decide +kernel), pT_mem 39 (by decide +kernel) (by decide +kernel), by decide⟩, ⟨by decide, by decide, by decide +kernel⟩, pT_mem 848 (by decide +kernel) (by decide +kernel), pT_mem 849 (by decide +kernel) (by decide +kernel)⟩
theorem ch_RL_181 : mi_cH pP RL 181 kL_wouldMend 4 := ⟨⟨pT_mem 863 (by decide +kernel) (by decide +kernel), pT_mem 39 (by decide +kernel) (by decide +kernel), by decide⟩, ⟨by decide, by decide, by decide +kernel⟩, pT_mem 861 (by decide +kernel) (by decide +kernel), pT_mem 862 (by decide +kernel) (by decide +kernel)⟩
theorem ci_RL_87 : mi_cI pP RL 87 kX8_init 0 := ⟨cwX8_init _ _, rfl, rfl, pT_mem 70 (by decide +kernel) (by decide +kernel), Or.inl (pT_mem 69 (by decide +kernel) (by decide +kernel))⟩
theorem ob_RX8_1 : Jvm.Cond.methodLink RX8 1 objectInit ∈ pP.2.1 := pT_mem 72 (by decide +kernel) (by decide +kernel)
theorem ci_RX8_23 : mi_cI pP RX8 23 kX3_init 0 := ⟨cwX3_init _ _, rfl, rfl, pT_mem 82 (by decide +kernel) (by decide +kernel), Or.inr ⟨"PitHouse", by decide +kernel⟩⟩
theorem ob_RX3_3 : Jvm.Cond.methodLink RX3 3 objectInit ∈ pP.2.1 := pT_mem 84 (by decide +kernel) (by decide +kernel)
theorem ci_RX8_30 : mi_cI pP RX8 30 kX2_init 0 := ⟨cwX2_init _ _, rfl, rfl, pT_mem 98 (by decide +kernel) (by decide +kernel), Or.inr ⟨"PitHouse", by decide +kernel⟩⟩
theorem ob_RX2_3 : Jvm.Cond.methodLink RX2 3 objectInit ∈ pP.2.1 := pT_mem 100 (by decide +kernel) (by decide +kernel)
theorem ci_RX8_37 : mi_cI pP RX8 37 kX0_init 0 := ⟨cwX0_init _ _, rfl, rfl, pT_mem 125 (by decide +kernel) (by decide +kernel), Or.inr ⟨"PitHouse", by decide +kernel⟩⟩
theorem ob_RX0_1 : Jvm.Cond.methodLink RX0 1 objectInit ∈ pP.2.1 := pT_mem 127 (by decide +kernel) (by decide +kernel)
theorem ci_RX0_9 : mi_cI pP RX0 9 kX1_init 0 := ⟨cwX1_init _ _, rfl, rfl, pT_mem 131 (by decide +kernel) (by decide +kernel), Or.inr ⟨"PitHouse", by decide +kernel⟩⟩
theorem ob_RX1_3 : Jvm.Cond.methodLink RX1 3 objectInit ∈ pP.2.1 := pT_mem 133 (by decide +kernel) (by decide +kernel)
theorem ci_RX0_18 : mi_cI pP RX0 18 kX4_init 0 := ⟨cwX4_init _ _, rfl, rfl, pT_mem 146 (by decide +kernel) (by decide +kernel), Or.inr ⟨"PitHouse", by decide +kernel⟩⟩
theorem ob_RX4_1 : Jvm.Cond.methodLink RX4 1 objectInit ∈ pP.2.1 := pT_mem 148 (by decide +kernel) (by decide +kernel)
theorem ci_RX8_59 : mi_cI pP RX8 59 kX5_init 1 := ⟨cwX5_init _ _, rfl, rfl, pT_mem 177 (by decide +kernel) (by decide +kernel), Or.inl (pT_mem 176 (by decide +kernel) (by decide +kernel))⟩
theorem ob_RX5_3 : Jvm.Cond.methodLink RX5 3 objectInit ∈ pP.2.1 := pT_mem 179 (by decide +kernel) (by decide +kernel)
theorem ci_RX5_11 : mi_cI pP RX5 11 kX1_init 0 := ⟨cwX1_init _ _, rfl, rfl, pT_mem 131 (by decide +kernel) (by decide +kernel), Or.inr ⟨"PitHouse", by decide +kernel⟩⟩
theorem ci_RX8_62 : mi_cI pP RX8 62 kX7_init 0 := ⟨cwX7_init _ _, rfl, rfl, pT_mem 223 (by decide +kernel) (by decide +kernel), Or.inr ⟨"PitHouse", by decide +kernel⟩⟩
theorem ob_RX7_3 : Jvm.Cond.methodLink RX7 3 objectInit ∈ pP.2.1 := pT_mem 225 (by decide +kernel) (by decide +kernel)
theorem cv_RL_131 : mi_cV pP RL 131 kX8_tray 1 := ⟨cwX8_tray _ _, pT_mem 286 (by decide +kernel) (by decide +kernel), pT_mem 287 (by decide +kernel) (by decide +kernel), pT_mem 288 (by decide +kernel) (by decide +kernel)⟩
theorem cv_RL_136 : mi_cV pP RL 136 kX8_push 0 := ⟨cwX8_push _ _, pT_mem 290 (by decide +kernel) (by decide +kernel), pT_mem 291 (by decide +kernel) (by decide +kernel), pT_mem 292 (by decide +kernel) (by decide +kernel)⟩
theorem cv_RL_147 : mi_cV pP RL 147 kX8_clock 0 := ⟨cwX8_clock _ _, pT_mem 294 (by decide +kernel) (by decide +kernel), pT_mem 295 (by decide +kernel) (by decide +kernel), pT_mem 296 (by decide +kernel) (by decide +kernel)⟩
theorem cv_RL_184 : mi_cV pP RL 184 kX8_digest 0 := ⟨cwX8_digest _ _, pT_mem 298 (by decide +kernel) (by decide +kernel), pT_mem 299 (by decide +kernel) (by decide +kernel), pT_mem 300 (by decide +kernel) (by decide +kernel)⟩
theorem cv_RX8_327 : mi_cV pP RX8 327 kX8_many 1 := ⟨cwX8_many _ _, pT_mem 304 (by decide +kernel) (by decide +kernel), pT_mem 305 (by decide +kernel) (by decide +kernel), pT_mem 306 (by decide +kernel) (by decide +kernel)⟩
theorem cv_RX8_295 : mi_cV pP RX8 295 kX8_writtenOf 1 := ⟨cwX8_writtenOf _ _, pT_mem 308 (by decide +kernel) (by decide +kernel), pT_mem 310 (by decide +kernel) (by decide +kernel), pT_mem 0 (by decide +kernel) (by decide +kernel)⟩
theorem cv_RX8_330 : mi_cV pP RX8 330 kX8_digestTracks 1 := ⟨cwX8_digestTracks _ _, pT_mem 380 (by decide +kernel) (by decide +kernel), pT_mem 382 (by decide +kernel) (by decide +kernel), pT_mem 2 (by decide +kernel) (by decide +kernel)⟩
theorem cv_RX8_340 : mi_cV pP RX8 340 kX8_ofTrack 2 := ⟨cwX8_ofTrack _ _, pT_mem 384 (by decide +kernel) (by decide +kernel), pT_mem 385 (by decide +kernel) (by decide +kernel), pT_mem 386 (by decide +kernel) (by decide +kernel)⟩
theorem cv_RX8_91 : mi_cV pP RX8 91 kX8_trackAt 1 := ⟨cwX8_trackAt _ _, pT_mem 388 (by decide +kernel) (by decide +kernel), pT_mem 390 (by decide +kernel) (by decide +kernel), pT_mem 3 (by decide +kernel) (by decide +kernel)⟩
theorem cv_RX8_266 : mi_cV pP RX8 266 kX8_goodFrom 2 := ⟨cwX8_goodFrom _ _, pT_mem 408 (by decide +kernel) (by decide +kernel), pT_mem 410 (by decide +kernel) (by decide +kernel), pT_mem 4 (by decide +kernel) (by decide +kernel)⟩
theorem cv_RX8_360 : mi_cV pP RX8 360 kX8_isGood 1 := ⟨cwX8_isGood _ _, pT_mem 412 (by decide +kernel) (by decide +kernel), pT_mem 414 (by decide +kernel) (by decide +kernel), pT_mem 5 (by decide +kernel) (by decide +kernel)⟩
theorem cs_RX8_136 : mi_cS pP RX8 136 kX8_isSector 1 := ⟨cwX8_isSector _ _, pT_mem 416 (by decide +kernel) (by decide +kernel), pT_mem 417 (by decide +kernel) (by decide +kernel)⟩
theorem cv_RX8_334 : mi_cV pP RX8 334 kX8_digestSectors 1 := ⟨cwX8_digestSectors _ _, pT_mem 420 (by decide +kernel) (by decide +kernel), pT_mem 422 (by decide +kernel) (by decide +kernel), pT_mem 6 (by decide +kernel) (by decide +kernel)⟩
theorem cv_RX8_343 : mi_cV pP RX8 343 kX8_ofSector 2 := ⟨cwX8_ofSector _ _, pT_mem 424 (by decide +kernel) (by decide +kernel), pT_mem 425 (by decide +kernel) (by decide +kernel), pT_mem 426 (by decide +kernel) (by decide +kernel)⟩
theorem cs_RX8_188 : mi_cS pP RX8 188 kX8_checkSector 1 := ⟨cwX8_checkSector _ _, pT_mem 428 (by decide +kernel) (by decide +kernel), pT_mem 429 (by decide +kernel) (by decide +kernel)⟩
theorem cv_RX8_142 : mi_cV pP RX8 142 kX8_trackOf 1 := ⟨cwX8_trackOf _ _, pT_mem 432 (by decide +kernel) (by decide +kernel), pT_mem 434 (by decide +kernel) (by decide +kernel), pT_mem 7 (by decide +kernel) (by decide +kernel)⟩
theorem cv_RX8_146 : mi_cV pP RX8 146 kX7_holds 1 := ⟨cwX7_holds _ _, pT_mem 436 (by decide +kernel) (by decide +kernel), pT_mem 437 (by decide +kernel) (by decide +kernel), pT_mem 438 (by decide +kernel) (by decide +kernel)⟩
theorem cv_RX7_34 : mi_cV pP RX7 34 kX7_behind 0 := ⟨cwX7_behind _ _, pT_mem 440 (by decide +kernel) (by decide +kernel), pT_mem 441 (by decide +kernel) (by decide +kernel), pT_mem 442 (by decide +kernel) (by decide +kernel)⟩
theorem cs_RX8_219 : mi_cS pP RX8 219 kJ6_bitCount_0f7a4 1 := ⟨cwJ6_bitCount_0f7a4 _ _, pT_mem 444 (by decide +kernel) (by decide +kernel), pT_mem 445 (by decide +kernel) (by decide +kernel)⟩
theorem cs_RX8_160 : mi_cS pP RX8 160 kX6_turnOf 1 := ⟨cwX6_turnOf _ _, pT_mem 450 (by decide +kernel) (by decide +kernel), pT_mem 451 (by decide +kernel) (by decide +kernel)⟩
theorem cs_RX6_13 : mi_cS pP RX6 13 kX6_zoneOf 1 := ⟨cwX6_zoneOf _ _, pT_mem 453 (by decide +kernel) (by decide +kernel), pT_mem 454 (by decide +kernel) (by decide +kernel)⟩
theorem cs_RX8_233 : mi_cS pP RX8 233 kX6_positionOf 1 := ⟨cwX6_positionOf _ _, pT_mem 460 (by decide +kernel) (by decide +kernel), pT_mem 461 (by decide +kernel) (by decide +kernel)⟩
theorem cv_RX8_346 : mi_cV pP RX8 346 kX8_nibbles 2 := ⟨cwX8_nibbles _ _, pT_mem 464 (by decide +kernel) (by decide +kernel), pT_mem 465 (by decide +kernel) (by decide +kernel), pT_mem 466 (by decide +kernel) (by decide +kernel)⟩
theorem cv_RX8_242 : mi_cV pP RX8 242 kX5_raw 0 := ⟨cwX5_raw _ _, pT_mem 468 (by decide +kernel) (by decide +kernel), pT_mem 469 (by decide +kernel) (by decide +kernel), pT_mem 470 (by decide +kernel) (by decide +kernel)⟩
theorem cv_RX5_82 : mi_cV pP RX5 82 kX1_gathered 0 := ⟨cwX1_gathered _ _, pT_mem 472 (by decide +kernel) (by decide +kernel), pT_mem 473 (by decide +kernel) (by decide +kernel), pT_mem 474 (by decide +kernel) (by decide +kernel)⟩
theorem cs_RX1_31 : mi_cS pP RX1 31 kX1_placeOf 1 := ⟨cwX1_placeOf _ _, pT_mem 476 (by decide +kernel) (by decide +kernel), pT_mem 477 (by decide +kernel) (by decide +kernel)⟩
theorem cv_RX1_38 : mi_cV pP RX1 38 kX1_valueAt 1 := ⟨cwX1_valueAt _ _, pT_mem 479 (by decide +kernel) (by decide +kernel), pT_mem 480 (by decide +kernel) (by decide +kernel), pT_mem 481 (by decide +kernel) (by decide +kernel)⟩
theorem cv_RX5_54 : mi_cV pP RX5 54 kX5_mixed 1 := ⟨cwX5_mixed _ _, pT_mem 483 (by decide +kernel) (by decide +kernel), pT_mem 485 (by decide +kernel) (by decide +kernel), pT_mem 8 (by decide +kernel) (by decide +kernel)⟩
theorem cv_RX8_337 : mi_cV pP RX8 337 kX8_digestFiles 1 := ⟨cwX8_digestFiles _ _, pT_mem 487 (by decide +kernel) (by decide +kernel), pT_mem 489 (by decide +kernel) (by decide +kernel), pT_mem 9 (by decide +kernel) (by decide +kernel)⟩
theorem cv_RX8_350 : mi_cV pP RX8 350 kX8_ofFile 3 := ⟨cwX8_ofFile _ _, pT_mem 491 (by decide +kernel) (by decide +kernel), pT_mem 492 (by decide +kernel) (by decide +kernel), pT_mem 493 (by decide +kernel) (by decide +kernel)⟩
theorem cs_RX8_133 : mi_cS pP RX8 133 kX8_checkFile 1 := ⟨cwX8_checkFile _ _, pT_mem 495 (by decide +kernel) (by decide +kernel), pT_mem 496 (by decide +kernel) (by decide +kernel)⟩
theorem cv_RX8_276 : mi_cV pP RX8 276 kX3_tellerOf 2 := ⟨cwX3_tellerOf _ _, pT_mem 501 (by decide +kernel) (by decide +kernel), pT_mem 502 (by decide +kernel) (by decide +kernel), pT_mem 503 (by decide +kernel) (by decide +kernel)⟩
theorem cv_RX8_279 : mi_cV pP RX8 279 kX3_firstOf 2 := ⟨cwX3_firstOf _ _, pT_mem 505 (by decide +kernel) (by decide +kernel), pT_mem 506 (by decide +kernel) (by decide +kernel), pT_mem 507 (by decide +kernel) (by decide +kernel)⟩
theorem cv_RX8_282 : mi_cV pP RX8 282 kX3_lengthOf 2 := ⟨cwX3_lengthOf _ _, pT_mem 509 (by decide +kernel) (by decide +kernel), pT_mem 510 (by decide +kernel) (by decide +kernel), pT_mem 511 (by decide +kernel) (by decide +kernel)⟩
theorem cv_RL_7 : mi_cV pP RL 7 kX8_session 0 := ⟨cwX8_session _ _, pT_mem 517 (by decide +kernel) (by decide +kernel), pT_mem 518 (by decide +kernel) (by decide +kernel), pT_mem 519 (by decide +kernel) (by decide +kernel)⟩
theorem cv_RX8_63 : mi_cV pP RX8 63 kX8_left 0 := ⟨cwX8_left _ _, pT_mem 521 (by decide +kernel) (by decide +kernel), pT_mem 523 (by decide +kernel) (by decide +kernel), pT_mem 10 (by decide +kernel) (by decide +kernel)⟩
theorem cv_RL_15 : mi_cV pP RL 15 kX8_track 2 := ⟨cwX8_track _ _, pT_mem 545 (by decide +kernel) (by decide +kernel), pT_mem 546 (by decide +kernel) (by decide +kernel), pT_mem 547 (by decide +kernel) (by decide +kernel)⟩
theorem cv_RX8_81 : mi_cV pP RX8 81 kX7_reserve 4 := ⟨cwX7_reserve _ _, pT_mem 551 (by decide +kernel) (by decide +kernel), pT_mem 552 (by decide +kernel) (by decide +kernel), pT_mem 553 (by decide +kernel) (by decide +kernel)⟩
theorem cv_RX8_85 : mi_cV pP RX8 85 kX7_behind 0 := ⟨cwX7_behind _ _, pT_mem 555 (by decide +kernel) (by decide +kernel), pT_mem 441 (by decide +kernel) (by decide +kernel), pT_mem 442 (by decide +kernel) (by decide +kernel)⟩
theorem cv_RL_21 : mi_cV pP RL 21 kX8_write 2 := ⟨cwX8_write _ _, pT_mem 560 (by decide +kernel) (by decide +kernel), pT_mem 561 (by decide +kernel) (by decide +kernel), pT_mem 562 (by decide +kernel) (by decide +kernel)⟩
theorem cv_RX8_99 : mi_cV pP RX8 99 kX7_hasRoom 0 := ⟨cwX7_hasRoom _ _, pT_mem 566 (by decide +kernel) (by decide +kernel), pT_mem 567 (by decide +kernel) (by decide +kernel), pT_mem 568 (by decide +kernel) (by decide +kernel)⟩
theorem cv_RX8_105 : mi_cV pP RX8 105 kX7_takeNext 0 := ⟨cwX7_takeNext _ _, pT_mem 571 (by decide +kernel) (by decide +kernel), pT_mem 572 (by decide +kernel) (by decide +kernel), pT_mem 573 (by decide +kernel) (by decide +kernel)⟩
theorem cv_RX8_111 : mi_cV pP RX8 111 kX5_fillWith 3 := ⟨cwX5_fillWith _ _, pT_mem 575 (by decide +kernel) (by decide +kernel), pT_mem 576 (by decide +kernel) (by decide +kernel), pT_mem 577 (by decide +kernel) (by decide +kernel)⟩
theorem cs_RX5_50 : mi_cS pP RX5 50 kX5_sumOf 1 := ⟨cwX5_sumOf _ _, pT_mem 579 (by decide +kernel) (by decide +kernel), pT_mem 580 (by decide +kernel) (by decide +kernel)⟩
theorem cs_RX5_86 : mi_cS pP RX5 86 kX5_nibbleOf 2 := ⟨cwX5_nibbleOf _ _, pT_mem 582 (by decide +kernel) (by decide +kernel), pT_mem 583 (by decide +kernel) (by decide +kernel)⟩
theorem cv_RX5_58 : mi_cV pP RX5 58 kX1_spread 1 := ⟨cwX1_spread _ _, pT_mem 585 (by decide +kernel) (by decide +kernel), pT_mem 586 (by decide +kernel) (by decide +kernel), pT_mem 587 (by decide +kernel) (by decide +kernel)⟩
theorem cv_RX1_27 : mi_cV pP RX1 27 kX1_put 2 := ⟨cwX1_put _ _, pT_mem 589 (by decide +kernel) (by decide +kernel), pT_mem 590 (by decide +kernel) (by decide +kernel), pT_mem 591 (by decide +kernel) (by decide +kernel)⟩
theorem cv_RX1_35 : mi_cV pP RX1 35 kX1_parityOf 1 := ⟨cwX1_parityOf _ _, pT_mem 595 (by decide +kernel) (by decide +kernel), pT_mem 597 (by decide +kernel) (by decide +kernel), pT_mem 11 (by decide +kernel) (by decide +kernel)⟩
theorem cv_RX5_62 : mi_cV pP RX5 62 kX5_reckon 1 := ⟨cwX5_reckon _ _, pT_mem 599 (by decide +kernel) (by decide +kernel), pT_mem 601 (by decide +kernel) (by decide +kernel), pT_mem 12 (by decide +kernel) (by decide +kernel)⟩
theorem cv_RX5_90 : mi_cV pP RX5 90 kX1_copyFrom 1 := ⟨cwX1_copyFrom _ _, pT_mem 603 (by decide +kernel) (by decide +kernel), pT_mem 604 (by decide +kernel) (by decide +kernel), pT_mem 605 (by decide +kernel) (by decide +kernel)⟩
theorem cv_RX5_94 : mi_cV pP RX5 94 kX1_mend 0 := ⟨cwX1_mend _ _, pT_mem 607 (by decide +kernel) (by decide +kernel), pT_mem 608 (by decide +kernel) (by decide +kernel), pT_mem 609 (by decide +kernel) (by decide +kernel)⟩
theorem cv_RX1_41 : mi_cV pP RX1 41 kX1_fillErased 0 := ⟨cwX1_fillErased _ _, pT_mem 611 (by decide +kernel) (by decide +kernel), pT_mem 613 (by decide +kernel) (by decide +kernel), pT_mem 13 (by decide +kernel) (by decide +kernel)⟩
theorem cs_RX1_51 : mi_cS pP RX1 51 kJ6_bitCount_0f7a4 1 := ⟨cwJ6_bitCount_0f7a4 _ _, pT_mem 617 (by decide +kernel) (by decide +kernel), pT_mem 445 (by decide +kernel) (by decide +kernel)⟩
theorem cs_RX1_56 : mi_cS pP RX1 56 kJ6_numberOfTrailingZeros_0f7a4 1 := ⟨cwJ6_numberOfTrailingZeros_0f7a4 _ _, pT_mem 618 (by decide +kernel) (by decide +kernel), pT_mem 619 (by decide +kernel) (by decide +kernel)⟩
theorem cv_RX1_44 : mi_cV pP RX1 44 kX1_onlyOddOf 1 := ⟨cwX1_onlyOddOf _ _, pT_mem 622 (by decide +kernel) (by decide +kernel), pT_mem 624 (by decide +kernel) (by decide +kernel), pT_mem 14 (by decide +kernel) (by decide +kernel)⟩
theorem cv_RX5_97 : mi_cV pP RX5 97 kX5_judged 1 := ⟨cwX5_judged _ _, pT_mem 626 (by decide +kernel) (by decide +kernel), pT_mem 628 (by decide +kernel) (by decide +kernel), pT_mem 15 (by decide +kernel) (by decide +kernel)⟩
theorem cv_RX5_121 : mi_cV pP RX5 121 kX1_isEven 0 := ⟨cwX1_isEven _ _, pT_mem 630 (by decide +kernel) (by decide +kernel), pT_mem 631 (by decide +kernel) (by decide +kernel), pT_mem 632 (by decide +kernel) (by decide +kernel)⟩
theorem cv_RX5_110 : mi_cV pP RX5 110 kX4_mark 1 := ⟨cwX4_mark _ _, pT_mem 634 (by decide +kernel) (by decide +kernel), pT_mem 635 (by decide +kernel) (by decide +kernel), pT_mem 636 (by decide +kernel) (by decide +kernel)⟩
theorem cv_RX4_28 : mi_cV pP RX4 28 kX1_valueAt 1 := ⟨cwX1_valueAt _ _, pT_mem 640 (by decide +kernel) (by decide +kernel), pT_mem 480 (by decide +kernel) (by decide +kernel), pT_mem 481 (by decide +kernel) (by decide +kernel)⟩
theorem cv_RX4_32 : mi_cV pP RX4 32 kX4_isJoined 2 := ⟨cwX4_isJoined _ _, pT_mem 641 (by decide +kernel) (by decide +kernel), pT_mem 643 (by decide +kernel) (by decide +kernel), pT_mem 16 (by decide +kernel) (by decide +kernel)⟩
theorem cv_RX4_40 : mi_cV pP RX4 40 kX4_dsvBehind 1 := ⟨cwX4_dsvBehind _ _, pT_mem 645 (by decide +kernel) (by decide +kernel), pT_mem 647 (by decide +kernel) (by decide +kernel), pT_mem 17 (by decide +kernel) (by decide +kernel)⟩
theorem cs_RX4_43 : mi_cS pP RX4 43 kJ9_abs_0f7a4 1 := ⟨cwJ9_abs_0f7a4 _ _, pT_mem 649 (by decide +kernel) (by decide +kernel), pT_mem 650 (by decide +kernel) (by decide +kernel)⟩
theorem cv_RX4_36 : mi_cV pP RX4 36 kX4_putBits 1 := ⟨cwX4_putBits _ _, pT_mem 652 (by decide +kernel) (by decide +kernel), pT_mem 654 (by decide +kernel) (by decide +kernel), pT_mem 18 (by decide +kernel) (by decide +kernel)⟩
theorem cs_RX4_48 : mi_cS pP RX4 48 kJ9_max_7cf53 2 := ⟨cwJ9_max_7cf53 _ _, pT_mem 656 (by decide +kernel) (by decide +kernel), pT_mem 657 (by decide +kernel) (by decide +kernel)⟩
theorem cv_RL_27 : mi_cV pP RL 27 kX8_starve 1 := ⟨cwX8_starve _ _, pT_mem 662 (by decide +kernel) (by decide +kernel), pT_mem 663 (by decide +kernel) (by decide +kernel), pT_mem 664 (by decide +kernel) (by decide +kernel)⟩
theorem cv_RL_31 : mi_cV pP RL 31 kX8_close 1 := ⟨cwX8_close _ _, pT_mem 670 (by decide +kernel) (by decide +kernel), pT_mem 671 (by decide +kernel) (by decide +kernel), pT_mem 672 (by decide +kernel) (by decide +kernel)⟩
theorem cv_RX8_125 : mi_cV pP RX8 125 kX7_giveBack 0 := ⟨cwX7_giveBack _ _, pT_mem 675 (by decide +kernel) (by decide +kernel), pT_mem 676 (by decide +kernel) (by decide +kernel), pT_mem 677 (by decide +kernel) (by decide +kernel)⟩
theorem cv_RL_34 : mi_cV pP RL 34 kX8_end 0 := ⟨cwX8_end _ _, pT_mem 682 (by decide +kernel) (by decide +kernel), pT_mem 683 (by decide +kernel) (by decide +kernel), pT_mem 684 (by decide +kernel) (by decide +kernel)⟩
theorem cv_RX8_128 : mi_cV pP RX8 128 kX8_hasOpenTrack 0 := ⟨cwX8_hasOpenTrack _ _, pT_mem 686 (by decide +kernel) (by decide +kernel), pT_mem 688 (by decide +kernel) (by decide +kernel), pT_mem 19 (by decide +kernel) (by decide +kernel)⟩
theorem cv_RL_37 : mi_cV pP RL 37 kX8_file 3 := ⟨cwX8_file _ _, pT_mem 694 (by decide +kernel) (by decide +kernel), pT_mem 695 (by decide +kernel) (by decide +kernel), pT_mem 696 (by decide +kernel) (by decide +kernel)⟩
theorem cv_RX8_153 : mi_cV pP RX8 153 kX3_tell 4 := ⟨cwX3_tell _ _, pT_mem 701 (by decide +kernel) (by decide +kernel), pT_mem 702 (by decide +kernel) (by decide +kernel), pT_mem 703 (by decide +kernel) (by decide +kernel)⟩
theorem cv_RL_41 : mi_cV pP RL 41 kX8_scratch 4 := ⟨cwX8_scratch _ _, pT_mem 708 (by decide +kernel) (by decide +kernel), pT_mem 709 (by decide +kernel) (by decide +kernel), pT_mem 710 (by decide +kernel) (by decide +kernel)⟩
theorem cs_RX8_165 : mi_cS pP RX8 165 kX6_angleOf 1 := ⟨cwX6_angleOf _ _, pT_mem 714 (by decide +kernel) (by decide +kernel), pT_mem 715 (by decide +kernel) (by decide +kernel)⟩
theorem cv_RX8_172 : mi_cV pP RX8 172 kX5_eraseColumn 3 := ⟨cwX5_eraseColumn _ _, pT_mem 718 (by decide +kernel) (by decide +kernel), pT_mem 719 (by decide +kernel) (by decide +kernel), pT_mem 720 (by decide +kernel) (by decide +kernel)⟩
theorem cv_RX5_66 : mi_cV pP RX5 66 kX1_erase 1 := ⟨cwX1_erase _ _, pT_mem 722 (by decide +kernel) (by decide +kernel), pT_mem 723 (by decide +kernel) (by decide +kernel), pT_mem 724 (by decide +kernel) (by decide +kernel)⟩
theorem cv_RX1_23 : mi_cV pP RX1 23 kX1_isErased 1 := ⟨cwX1_isErased _ _, pT_mem 726 (by decide +kernel) (by decide +kernel), pT_mem 727 (by decide +kernel) (by decide +kernel), pT_mem 728 (by decide +kernel) (by decide +kernel)⟩
theorem cv_RL_45 : mi_cV pP RL 45 kX8_rot 1 := ⟨cwX8_rot _ _, pT_mem 733 (by decide +kernel) (by decide +kernel), pT_mem 734 (by decide +kernel) (by decide +kernel), pT_mem 735 (by decide +kernel) (by decide +kernel)⟩
theorem cv_RX8_178 : mi_cV pP RX8 178 kX5_makeWrong 3 := ⟨cwX5_makeWrong _ _, pT_mem 738 (by decide +kernel) (by decide +kernel), pT_mem 739 (by decide +kernel) (by decide +kernel), pT_mem 740 (by decide +kernel) (by decide +kernel)⟩
theorem cv_RX5_70 : mi_cV pP RX5 70 kX1_isErased 1 := ⟨cwX1_isErased _ _, pT_mem 742 (by decide +kernel) (by decide +kernel), pT_mem 727 (by decide +kernel) (by decide +kernel), pT_mem 728 (by decide +kernel) (by decide +kernel)⟩
theorem cv_RX5_74 : mi_cV pP RX5 74 kX1_valueAt 1 := ⟨cwX1_valueAt _ _, pT_mem 743 (by decide +kernel) (by decide +kernel), pT_mem 480 (by decide +kernel) (by decide +kernel), pT_mem 481 (by decide +kernel) (by decide +kernel)⟩
theorem cv_RX5_78 : mi_cV pP RX5 78 kX1_put 2 := ⟨cwX1_put _ _, pT_mem 744 (by decide +kernel) (by decide +kernel), pT_mem 590 (by decide +kernel) (by decide +kernel), pT_mem 591 (by decide +kernel) (by decide +kernel)⟩
theorem cv_RL_48 : mi_cV pP RL 48 kX8_read 1 := ⟨cwX8_read _ _, pT_mem 748 (by decide +kernel) (by decide +kernel), pT_mem 749 (by decide +kernel) (by decide +kernel), pT_mem 750 (by decide +kernel) (by decide +kernel)⟩
theorem cv_RX8_193 : mi_cV pP RX8 193 kX2_passOver 1 := ⟨cwX2_passOver _ _, pT_mem 753 (by decide +kernel) (by decide +kernel), pT_mem 754 (by decide +kernel) (by decide +kernel), pT_mem 755 (by decide +kernel) (by decide +kernel)⟩
theorem cs_RX2_70 : mi_cS pP RX2 70 kX2_clockBehind 3 := ⟨cwX2_clockBehind _ _, pT_mem 757 (by decide +kernel) (by decide +kernel), pT_mem 758 (by decide +kernel) (by decide +kernel)⟩
theorem cs_RX2_56 : mi_cS pP RX2 56 kX2_seekTime 2 := ⟨cwX2_seekTime _ _, pT_mem 760 (by decide +kernel) (by decide +kernel), pT_mem 761 (by decide +kernel) (by decide +kernel)⟩
theorem cs_RX2_33 : mi_cS pP RX2 33 kX6_turnOf 1 := ⟨cwX6_turnOf _ _, pT_mem 765 (by decide +kernel) (by decide +kernel), pT_mem 451 (by decide +kernel) (by decide +kernel)⟩
theorem cs_RX2_39 : mi_cS pP RX2 39 kJ9_abs_0f7a4 1 := ⟨cwJ9_abs_0f7a4 _ _, pT_mem 766 (by decide +kernel) (by decide +kernel), pT_mem 650 (by decide +kernel) (by decide +kernel)⟩
theorem cs_RX2_44 : mi_cS pP RX2 44 kX6_angleOf 1 := ⟨cwX6_angleOf _ _, pT_mem 767 (by decide +kernel) (by decide +kernel), pT_mem 715 (by decide +kernel) (by decide +kernel)⟩
theorem cs_RX2_50 : mi_cS pP RX2 50 kX2_restOfTurn 1 := ⟨cwX2_restOfTurn _ _, pT_mem 769 (by decide +kernel) (by decide +kernel), pT_mem 770 (by decide +kernel) (by decide +kernel)⟩
theorem cs_RX2_62 : mi_cS pP RX2 62 kX6_speedOf 1 := ⟨cwX6_speedOf _ _, pT_mem 774 (by decide +kernel) (by decide +kernel), pT_mem 775 (by decide +kernel) (by decide +kernel)⟩
theorem cs_RX2_74 : mi_cS pP RX2 74 kX2_headBehind 1 := ⟨cwX2_headBehind _ _, pT_mem 779 (by decide +kernel) (by decide +kernel), pT_mem 780 (by decide +kernel) (by decide +kernel)⟩
theorem cs_RX2_66 : mi_cS pP RX2 66 kJ9_min_7cf53 2 := ⟨cwJ9_min_7cf53 _ _, pT_mem 782 (by decide +kernel) (by decide +kernel), pT_mem 783 (by decide +kernel) (by decide +kernel)⟩
theorem cv_RL_51 : mi_cV pP RL 51 kX8_seek 1 := ⟨cwX8_seek _ _, pT_mem 788 (by decide +kernel) (by decide +kernel), pT_mem 789 (by decide +kernel) (by decide +kernel), pT_mem 790 (by decide +kernel) (by decide +kernel)⟩
theorem cs_RX8_202 : mi_cS pP RX8 202 kX2_seekTime 2 := ⟨cwX2_seekTime _ _, pT_mem 792 (by decide +kernel) (by decide +kernel), pT_mem 761 (by decide +kernel) (by decide +kernel)⟩
theorem cv_RL_55 : mi_cV pP RL 55 kX8_angle 1 := ⟨cwX8_angle _ _, pT_mem 796 (by decide +kernel) (by decide +kernel), pT_mem 797 (by decide +kernel) (by decide +kernel), pT_mem 798 (by decide +kernel) (by decide +kernel)⟩
theorem cv_RL_58 : mi_cV pP RL 58 kX8_ofSector 2 := ⟨cwX8_ofSector _ _, pT_mem 803 (by decide +kernel) (by decide +kernel), pT_mem 425 (by decide +kernel) (by decide +kernel), pT_mem 426 (by decide +kernel) (by decide +kernel)⟩
theorem cv_RL_61 : mi_cV pP RL 61 kX8_nibbles 2 := ⟨cwX8_nibbles _ _, pT_mem 807 (by decide +kernel) (by decide +kernel), pT_mem 465 (by decide +kernel) (by decide +kernel), pT_mem 466 (by decide +kernel) (by decide +kernel)⟩
theorem cv_RL_65 : mi_cV pP RL 65 kX8_place 2 := ⟨cwX8_place _ _, pT_mem 811 (by decide +kernel) (by decide +kernel), pT_mem 812 (by decide +kernel) (by decide +kernel), pT_mem 813 (by decide +kernel) (by decide +kernel)⟩
theorem cv_RX8_251 : mi_cV pP RX8 251 kX1_isErased 1 := ⟨cwX1_isErased _ _, pT_mem 816 (by decide +kernel) (by decide +kernel), pT_mem 727 (by decide +kernel) (by decide +kernel), pT_mem 728 (by decide +kernel) (by decide +kernel)⟩
theorem cv_RX8_254 : mi_cV pP RX8 254 kX1_valueAt 1 := ⟨cwX1_valueAt _ _, pT_mem 817 (by decide +kernel) (by decide +kernel), pT_mem 480 (by decide +kernel) (by decide +kernel), pT_mem 481 (by decide +kernel) (by decide +kernel)⟩
theorem cv_RL_68 : mi_cV pP RL 68 kX8_ofTrack 2 := ⟨cwX8_ofTrack _ _, pT_mem 821 (by decide +kernel) (by decide +kernel), pT_mem 385 (by decide +kernel) (by decide +kernel), pT_mem 386 (by decide +kernel) (by decide +kernel)⟩
theorem cv_RL_71 : mi_cV pP RL 71 kX8_ofFile 3 := ⟨cwX8_ofFile _ _, pT_mem 825 (by decide +kernel) (by decide +kernel), pT_mem 492 (by decide +kernel) (by decide +kernel), pT_mem 493 (by decide +kernel) (by decide +kernel)⟩
theorem cv_RL_74 : mi_cV pP RL 74 kX8_play 1 := ⟨cwX8_play _ _, pT_mem 829 (by decide +kernel) (by decide +kernel), pT_mem 830 (by decide +kernel) (by decide +kernel), pT_mem 831 (by decide +kernel) (by decide +kernel)⟩
theorem cv_RX8_287 : mi_cV pP RX8 287 kX5_sample 0 := ⟨cwX5_sample _ _, pT_mem 834 (by decide +kernel) (by decide +kernel), pT_mem 835 (by decide +kernel) (by decide +kernel), pT_mem 836 (by decide +kernel) (by decide +kernel)⟩
theorem cv_RX8_291 : mi_cV pP RX8 291 kX8_sampleBetween 3 := ⟨cwX8_sampleBetween _ _, pT_mem 838 (by decide +kernel) (by decide +kernel), pT_mem 840 (by decide +kernel) (by decide +kernel), pT_mem 20 (by decide +kernel) (by decide +kernel)⟩
theorem cv_RL_77 : mi_cV pP RL 77 kX8_many 1 := ⟨cwX8_many _ _, pT_mem 847 (by decide +kernel) (by decide +kernel), pT_mem 305 (by decide +kernel) (by decide +kernel), pT_mem 306 (by decide +kernel) (by decide +kernel)⟩
theorem cv_RL_80 : mi_cV pP RL 80 kX8_wouldTake 2 := ⟨cwX8_wouldTake _ _, pT_mem 851 (by decide +kernel) (by decide +kernel), pT_mem 852 (by decide +kernel) (by decide +kernel), pT_mem 853 (by decide +kernel) (by decide +kernel)⟩
theorem cs_RX8_305 : mi_cS pP RX8 305 kJ9_min_7cf53 2 := ⟨cwJ9_min_7cf53 _ _, pT_mem 856 (by decide +kernel) (by decide +kernel), pT_mem 783 (by decide +kernel) (by decide +kernel)⟩
theorem cv_RX8_310 : mi_cV pP RX8 310 kX2_timeOver 2 := ⟨cwX2_timeOver _ _, pT_mem 857 (by decide +kernel) (by decide +kernel), pT_mem 858 (by decide +kernel) (by decide +kernel), pT_mem 859 (by decide +kernel) (by decide +kernel)⟩
theorem cv_RL_84 : mi_cV pP RL 84 kX8_wouldMend 2 := ⟨cwX8_wouldMend _ _, pT_mem 864 (by decide +kernel) (by decide +kernel), pT_mem 865 (by decide +kernel) (by decide +kernel), pT_mem 866 (by decide +kernel) (by decide +kernel)⟩
theorem cv_RX8_319 : mi_cV pP RX8 319 kX5_stateWithout 2 := ⟨cwX5_stateWithout _ _, pT_mem 870 (by decide +kernel) (by decide +kernel), pT_mem 871 (by decide +kernel) (by decide +kernel), pT_mem 872 (by decide +kernel) (by decide +kernel)⟩
theorem ci_RL_90 : mi_cI pP RL 90 kX9_init 0 := ⟨cwX9_init _ _, rfl, rfl, pT_mem 877 (by decide +kernel) (by decide +kernel), Or.inl (pT_mem 876 (by decide +kernel) (by decide +kernel))⟩
theorem ob_RX9_1 : Jvm.Cond.methodLink RX9 1 objectInit ∈ pP.2.1 := pT_mem 879 (by decide +kernel) (by decide +kernel)
theorem ci_RX9_20 : mi_cI pP RX9 20 kJx4a65c_init_da8c8 0 := ⟨cwJx4a65c_init_da8c8 _ _, rfl, rfl, pT_mem 884 (by decide +kernel) (by decide +kernel), Or.inl (pT_mem 883 (by decide +kernel) (by decide +kernel))⟩
theorem ci_RJx4a65c_1 : mi_cI pP RJx4a65c 1 kJxc12de_init_da8c8 0 := ⟨cwJxc12de_init_da8c8 _ _, rfl, rfl, pT_mem 887 (by decide +kernel) (by decide +kernel), Or.inl (pT_mem 886 (by decide +kernel) (by decide +kernel))⟩
theorem ci_RJxc12de_1 : mi_cI pP RJxc12de 1 kJxa1e45_init_da8c8 0 := ⟨cwJxa1e45_init_da8c8 _ _, rfl, rfl, pT_mem 890 (by decide +kernel) (by decide +kernel), Or.inl (pT_mem 889 (by decide +kernel) (by decide +kernel))⟩
theorem ob_RJxa1e45_1 : Jvm.Cond.methodLink RJxa1e45 1 objectInit ∈ pP.2.1 := pT_mem 892 (by decide +kernel) (by decide +kernel)
theorem cv_RL_97 : mi_cV pP RL 97 kX9_thrown 0 := ⟨cwX9_thrown _ _, pT_mem 956 (by decide +kernel) (by decide +kernel), pT_mem 957 (by decide +kernel) (by decide +kernel), pT_mem 958 (by decide +kernel) (by decide +kernel)⟩
theorem cv_RL_96 : mi_cV pP RL 96 kX9_session 0 := ⟨cwX9_session _ _, pT_mem 960 (by decide +kernel) (by decide +kernel), pT_mem 961 (by decide +kernel) (by decide +kernel), pT_mem 962 (by decide +kernel) (by decide +kernel)⟩
theorem cv_RX9_130 : mi_cV pP RX9 130 kX9_start 2 := ⟨cwX9_start _ _, pT_mem 964 (by decide +kernel) (by decide +kernel), pT_mem 966 (by decide +kernel) (by decide +kernel), pT_mem 21 (by decide +kernel) (by decide +kernel)⟩
theorem cv_RX9_38 : mi_cV pP RX9 38 kX9_refuse 2 := ⟨cwX9_refuse _ _, pT_mem 968 (by decide +kernel) (by decide +kernel), pT_mem 970 (by decide +kernel) (by decide +kernel), pT_mem 22 (by decide +kernel) (by decide +kernel)⟩
theorem cv_RL_103 : mi_cV pP RL 103 kX9_track 2 := ⟨cwX9_track _ _, pT_mem 972 (by decide +kernel) (by decide +kernel), pT_mem 973 (by decide +kernel) (by decide +kernel), pT_mem 974 (by decide +kernel) (by decide +kernel)⟩
theorem cs_RX9_46 : mi_cS pP RX9 46 kX9_isIn 3 := ⟨cwX9_isIn _ _, pT_mem 976 (by decide +kernel) (by decide +kernel), pT_mem 977 (by decide +kernel) (by decide +kernel)⟩
theorem cv_RX9_42 : mi_cV pP RX9 42 kJx4a65c_size_8abf5 0 := ⟨cwJx4a65c_size_8abf5 _ _, pT_mem 979 (by decide +kernel) (by decide +kernel), pT_mem 980 (by decide +kernel) (by decide +kernel), pT_mem 981 (by decide +kernel) (by decide +kernel)⟩
theorem cs_RJ8_194 : mi_cS pP RJ8 194 kJ9_max_7cf53 2 := ⟨cwJ9_max_7cf53 _ _, pT_mem 1002 (by decide +kernel) (by decide +kernel), pT_mem 657 (by decide +kernel) (by decide +kernel)⟩
theorem cs_RJ7_304 : mi_cS pP RJ7 304 kJ9_min_7cf53 2 := ⟨cwJ9_min_7cf53 _ _, pT_mem 1034 (by decide +kernel) (by decide +kernel), pT_mem 783 (by decide +kernel) (by decide +kernel)⟩
theorem cs_RJx4a65c_79 : mi_cS pP RJx4a65c 79 kJ9_max_7cf53 2 := ⟨cwJ9_max_7cf53 _ _, pT_mem 1038 (by decide +kernel) (by decide +kernel), pT_mem 657 (by decide +kernel) (by decide +kernel)⟩
theorem cv_RL_109 : mi_cV pP RL 109 kX9_write 2 := ⟨cwX9_write _ _, pT_mem 1040 (by decide +kernel) (by decide +kernel), pT_mem 1041 (by decide +kernel) (by decide +kernel), pT_mem 1042 (by decide +kernel) (by decide +kernel)⟩
theorem cv_RX9_137 : mi_cV pP RX9 137 kX9_isNoTrack 1 := ⟨cwX9_isNoTrack _ _, pT_mem 1044 (by decide +kernel) (by decide +kernel), pT_mem 1046 (by decide +kernel) (by decide +kernel), pT_mem 26 (by decide +kernel) (by decide +kernel)⟩
theorem cv_RX9_143 : mi_cV pP RX9 143 kX9_isDone 1 := ⟨cwX9_isDone _ _, pT_mem 1049 (by decide +kernel) (by decide +kernel), pT_mem 1051 (by decide +kernel) (by decide +kernel), pT_mem 27 (by decide +kernel) (by decide +kernel)⟩
theorem cs_RX9_146 : mi_cS pP RX9 146 kX9_blockOf 2 := ⟨cwX9_blockOf _ _, pT_mem 1067 (by decide +kernel) (by decide +kernel), pT_mem 1068 (by decide +kernel) (by decide +kernel)⟩
theorem cs_RX9_50 : mi_cS pP RX9 50 kX9_placeOf 1 := ⟨cwX9_placeOf _ _, pT_mem 1070 (by decide +kernel) (by decide +kernel), pT_mem 1071 (by decide +kernel) (by decide +kernel)⟩
theorem cs_RX9_56 : mi_cS pP RX9 56 kX9_mask 2 := ⟨cwX9_mask _ _, pT_mem 1074 (by decide +kernel) (by decide +kernel), pT_mem 1075 (by decide +kernel) (by decide +kernel)⟩
theorem cs_RX9_96 : mi_cS pP RX9 96 kX9_sumOf 1 := ⟨cwX9_sumOf _ _, pT_mem 1077 (by decide +kernel) (by decide +kernel), pT_mem 1078 (by decide +kernel) (by decide +kernel)⟩
theorem cv_RL_113 : mi_cV pP RL 113 kX9_starve 1 := ⟨cwX9_starve _ _, pT_mem 1080 (by decide +kernel) (by decide +kernel), pT_mem 1081 (by decide +kernel) (by decide +kernel), pT_mem 1082 (by decide +kernel) (by decide +kernel)⟩
theorem cv_RL_116 : mi_cV pP RL 116 kX9_close 1 := ⟨cwX9_close _ _, pT_mem 1084 (by decide +kernel) (by decide +kernel), pT_mem 1085 (by decide +kernel) (by decide +kernel), pT_mem 1086 (by decide +kernel) (by decide +kernel)⟩
theorem cv_RL_119 : mi_cV pP RL 119 kX9_end 0 := ⟨cwX9_end _ _, pT_mem 1088 (by decide +kernel) (by decide +kernel), pT_mem 1089 (by decide +kernel) (by decide +kernel), pT_mem 1090 (by decide +kernel) (by decide +kernel)⟩
theorem cv_RX9_150 : mi_cV pP RX9 150 kJx4a65c_iterator_32c93 0 := ⟨cwJx4a65c_iterator_32c93 _ _, pT_mem 1092 (by decide +kernel) (by decide +kernel), pT_mem 1093 (by decide +kernel) (by decide +kernel), pT_mem 1094 (by decide +kernel) (by decide +kernel)⟩
theorem ci_RJx4a65c_269 : mi_cI pP RJx4a65c 269 kJx35411_init_45d68 1 := ⟨cwJx35411_init_45d68 _ _, rfl, rfl, pT_mem 1099 (by decide +kernel) (by decide +kernel), Or.inl (pT_mem 1098 (by decide +kernel) (by decide +kernel))⟩
theorem ob_RJx35411_7 : Jvm.Cond.methodLink RJx35411 7 objectInit ∈ pP.2.1 := pT_mem 1101 (by decide +kernel) (by decide +kernel)
theorem cv_RL_123 : mi_cV pP RL 123 kX9_file 3 := ⟨cwX9_file _ _, pT_mem 1138 (by decide +kernel) (by decide +kernel), pT_mem 1139 (by decide +kernel) (by decide +kernel), pT_mem 1140 (by decide +kernel) (by decide +kernel)⟩
theorem cv_RX9_163 : mi_cV pP RX9 163 kX9_isNoFile 1 := ⟨cwX9_isNoFile _ _, pT_mem 1142 (by decide +kernel) (by decide +kernel), pT_mem 1144 (by decide +kernel) (by decide +kernel), pT_mem 28 (by decide +kernel) (by decide +kernel)⟩
theorem cs_RX9_166 : mi_cS pP RX9 166 kX9_isNoSector 1 := ⟨cwX9_isNoSector _ _, pT_mem 1146 (by decide +kernel) (by decide +kernel), pT_mem 1147 (by decide +kernel) (by decide +kernel)⟩
theorem cv_RL_127 : mi_cV pP RL 127 kX9_scratch 4 := ⟨cwX9_scratch _ _, pT_mem 1149 (by decide +kernel) (by decide +kernel), pT_mem 1150 (by decide +kernel) (by decide +kernel), pT_mem 1151 (by decide +kernel) (by decide +kernel)⟩
theorem cs_RX9_171 : mi_cS pP RX9 171 kX9_turnOf 1 := ⟨cwX9_turnOf _ _, pT_mem 1153 (by decide +kernel) (by decide +kernel), pT_mem 1154 (by decide +kernel) (by decide +kernel)⟩
theorem cs_RX9_174 : mi_cS pP RX9 174 kX9_angleOf 1 := ⟨cwX9_angleOf _ _, pT_mem 1156 (by decide +kernel) (by decide +kernel), pT_mem 1157 (by decide +kernel) (by decide +kernel)⟩
theorem cv_RL_130 : mi_cV pP RL 130 kX9_rot 1 := ⟨cwX9_rot _ _, pT_mem 1160 (by decide +kernel) (by decide +kernel), pT_mem 1161 (by decide +kernel) (by decide +kernel), pT_mem 1162 (by decide +kernel) (by decide +kernel)⟩
theorem cv_RL_135 : mi_cV pP RL 135 kX9_tray 1 := ⟨cwX9_tray _ _, pT_mem 1164 (by decide +kernel) (by decide +kernel), pT_mem 1165 (by decide +kernel) (by decide +kernel), pT_mem 1166 (by decide +kernel) (by decide +kernel)⟩
theorem cv_RL_139 : mi_cV pP RL 139 kX9_push 0 := ⟨cwX9_push _ _, pT_mem 1168 (by decide +kernel) (by decide +kernel), pT_mem 1169 (by decide +kernel) (by decide +kernel), pT_mem 1170 (by decide +kernel) (by decide +kernel)⟩
theorem cv_RL_142 : mi_cV pP RL 142 kX9_read 1 := ⟨cwX9_read _ _, pT_mem 1172 (by decide +kernel) (by decide +kernel), pT_mem 1173 (by decide +kernel) (by decide +kernel), pT_mem 1174 (by decide +kernel) (by decide +kernel)⟩
theorem cs_RX9_204 : mi_cS pP RX9 204 kX9_seekFrom 2 := ⟨cwX9_seekFrom _ _, pT_mem 1176 (by decide +kernel) (by decide +kernel), pT_mem 1177 (by decide +kernel) (by decide +kernel)⟩
theorem cs_RX9_106 : mi_cS pP RX9 106 kJ9_abs_0f7a4 1 := ⟨cwJ9_abs_0f7a4 _ _, pT_mem 1181 (by decide +kernel) (by decide +kernel), pT_mem 650 (by decide +kernel) (by decide +kernel)⟩
theorem cs_RX9_208 : mi_cS pP RX9 208 kX9_readOf 1 := ⟨cwX9_readOf _ _, pT_mem 1183 (by decide +kernel) (by decide +kernel), pT_mem 1184 (by decide +kernel) (by decide +kernel)⟩
theorem cs_RX9_211 : mi_cS pP RX9 211 kX9_behind 1 := ⟨cwX9_behind _ _, pT_mem 1189 (by decide +kernel) (by decide +kernel), pT_mem 1190 (by decide +kernel) (by decide +kernel)⟩
theorem cs_RX9_194 : mi_cS pP RX9 194 kJ9_min_7cf53 2 := ⟨cwJ9_min_7cf53 _ _, pT_mem 1192 (by decide +kernel) (by decide +kernel), pT_mem 783 (by decide +kernel) (by decide +kernel)⟩
theorem cv_RX9_104 : mi_cV pP RX9 104 kX9_worth_ 1 := ⟨cwX9_worth_ _ _, pT_mem 1193 (by decide +kernel) (by decide +kernel), pT_mem 1195 (by decide +kernel) (by decide +kernel), pT_mem 29 (by decide +kernel) (by decide +kernel)⟩
theorem cv_RX9_100 : mi_cV pP RX9 100 kX9_worth 2 := ⟨cwX9_worth _ _, pT_mem 1197 (by decide +kernel) (by decide +kernel), pT_mem 1199 (by decide +kernel) (by decide +kernel), pT_mem 30 (by decide +kernel) (by decide +kernel)⟩
theorem cs_RX9_84 : mi_cS pP RX9 84 kX9_mended 1 := ⟨cwX9_mended _ _, pT_mem 1201 (by decide +kernel) (by decide +kernel), pT_mem 1202 (by decide +kernel) (by decide +kernel)⟩
theorem cs_RX9_76 : mi_cS pP RX9 76 kX9_fill 2 := ⟨cwX9_fill _ _, pT_mem 1205 (by decide +kernel) (by decide +kernel), pT_mem 1206 (by decide +kernel) (by decide +kernel)⟩
theorem cs_RX9_67 : mi_cS pP RX9 67 kX9_at 2 := ⟨cwX9_at _ _, pT_mem 1208 (by decide +kernel) (by decide +kernel), pT_mem 1209 (by decide +kernel) (by decide +kernel)⟩
theorem cs_RX9_80 : mi_cS pP RX9 80 kX9_parity 2 := ⟨cwX9_parity _ _, pT_mem 1211 (by decide +kernel) (by decide +kernel), pT_mem 1212 (by decide +kernel) (by decide +kernel)⟩
theorem cs_RX9_92 : mi_cS pP RX9 92 kX9_nibblesOf 2 := ⟨cwX9_nibblesOf _ _, pT_mem 1214 (by decide +kernel) (by decide +kernel), pT_mem 1215 (by decide +kernel) (by decide +kernel)⟩
theorem cs_RX9_62 : mi_cS pP RX9 62 kJ9_max_7cf53 2 := ⟨cwJ9_max_7cf53 _ _, pT_mem 1218 (by decide +kernel) (by decide +kernel), pT_mem 657 (by decide +kernel) (by decide +kernel)⟩
theorem cv_RL_146 : mi_cV pP RL 146 kX9_seek 1 := ⟨cwX9_seek _ _, pT_mem 1219 (by decide +kernel) (by decide +kernel), pT_mem 1220 (by decide +kernel) (by decide +kernel), pT_mem 1221 (by decide +kernel) (by decide +kernel)⟩
theorem cv_RL_151 : mi_cV pP RL 151 kX9_clock 0 := ⟨cwX9_clock _ _, pT_mem 1223 (by decide +kernel) (by decide +kernel), pT_mem 1224 (by decide +kernel) (by decide +kernel), pT_mem 1225 (by decide +kernel) (by decide +kernel)⟩
theorem cv_RL_154 : mi_cV pP RL 154 kX9_angle 1 := ⟨cwX9_angle _ _, pT_mem 1227 (by decide +kernel) (by decide +kernel), pT_mem 1228 (by decide +kernel) (by decide +kernel), pT_mem 1229 (by decide +kernel) (by decide +kernel)⟩
theorem cv_RL_157 : mi_cV pP RL 157 kX9_ofSector 2 := ⟨cwX9_ofSector _ _, pT_mem 1231 (by decide +kernel) (by decide +kernel), pT_mem 1232 (by decide +kernel) (by decide +kernel), pT_mem 1233 (by decide +kernel) (by decide +kernel)⟩
theorem cv_RX9_224 : mi_cV pP RX9 224 kX9_toldOfSector 2 := ⟨cwX9_toldOfSector _ _, pT_mem 1235 (by decide +kernel) (by decide +kernel), pT_mem 1237 (by decide +kernel) (by decide +kernel), pT_mem 31 (by decide +kernel) (by decide +kernel)⟩
theorem cs_RX9_217 : mi_cS pP RX9 217 kX9_one 1 := ⟨cwX9_one _ _, pT_mem 1239 (by decide +kernel) (by decide +kernel), pT_mem 1240 (by decide +kernel) (by decide +kernel)⟩
theorem cs_RX9_221 : mi_cS pP RX9 221 kX9_marks 1 := ⟨cwX9_marks _ _, pT_mem 1242 (by decide +kernel) (by decide +kernel), pT_mem 1243 (by decide +kernel) (by decide +kernel)⟩
theorem cs_RX9_116 : mi_cS pP RX9 116 kX9_after 3 := ⟨cwX9_after _ _, pT_mem 1247 (by decide +kernel) (by decide +kernel), pT_mem 1248 (by decide +kernel) (by decide +kernel)⟩
theorem cs_RX9_109 : mi_cS pP RX9 109 kX9_bit 2 := ⟨cwX9_bit _ _, pT_mem 1250 (by decide +kernel) (by decide +kernel), pT_mem 1251 (by decide +kernel) (by decide +kernel)⟩
theorem cv_RL_161 : mi_cV pP RL 161 kX9_nibbles 2 := ⟨cwX9_nibbles _ _, pT_mem 1253 (by decide +kernel) (by decide +kernel), pT_mem 1254 (by decide +kernel) (by decide +kernel), pT_mem 1255 (by decide +kernel) (by decide +kernel)⟩
theorem cv_RX9_229 : mi_cV pP RX9 229 kX9_nibblesAt 2 := ⟨cwX9_nibblesAt _ _, pT_mem 1257 (by decide +kernel) (by decide +kernel), pT_mem 1259 (by decide +kernel) (by decide +kernel), pT_mem 32 (by decide +kernel) (by decide +kernel)⟩
theorem cv_RL_164 : mi_cV pP RL 164 kX9_place 2 := ⟨cwX9_place _ _, pT_mem 1262 (by decide +kernel) (by decide +kernel), pT_mem 1263 (by decide +kernel) (by decide +kernel), pT_mem 1264 (by decide +kernel) (by decide +kernel)⟩
theorem cv_RL_167 : mi_cV pP RL 167 kX9_ofTrack 2 := ⟨cwX9_ofTrack _ _, pT_mem 1266 (by decide +kernel) (by decide +kernel), pT_mem 1267 (by decide +kernel) (by decide +kernel), pT_mem 1268 (by decide +kernel) (by decide +kernel)⟩
theorem cv_RX9_236 : mi_cV pP RX9 236 kX9_toldOfTrack 2 := ⟨cwX9_toldOfTrack _ _, pT_mem 1270 (by decide +kernel) (by decide +kernel), pT_mem 1272 (by decide +kernel) (by decide +kernel), pT_mem 33 (by decide +kernel) (by decide +kernel)⟩
theorem cv_RX9_233 : mi_cV pP RX9 233 kX9_isGood 1 := ⟨cwX9_isGood _ _, pT_mem 1274 (by decide +kernel) (by decide +kernel), pT_mem 1276 (by decide +kernel) (by decide +kernel), pT_mem 34 (by decide +kernel) (by decide +kernel)⟩
theorem cv_RL_170 : mi_cV pP RL 170 kX9_ofFile 3 := ⟨cwX9_ofFile _ _, pT_mem 1278 (by decide +kernel) (by decide +kernel), pT_mem 1279 (by decide +kernel) (by decide +kernel), pT_mem 1280 (by decide +kernel) (by decide +kernel)⟩
theorem cv_RX9_239 : mi_cV pP RX9 239 kX9_toldOfFile 3 := ⟨cwX9_toldOfFile _ _, pT_mem 1282 (by decide +kernel) (by decide +kernel), pT_mem 1284 (by decide +kernel) (by decide +kernel), pT_mem 35 (by decide +kernel) (by decide +kernel)⟩
theorem cv_RL_173 : mi_cV pP RL 173 kX9_play 1 := ⟨cwX9_play _ _, pT_mem 1286 (by decide +kernel) (by decide +kernel), pT_mem 1287 (by decide +kernel) (by decide +kernel), pT_mem 1288 (by decide +kernel) (by decide +kernel)⟩
theorem cv_RX9_243 : mi_cV pP RX9 243 kX9_sample 1 := ⟨cwX9_sample _ _, pT_mem 1290 (by decide +kernel) (by decide +kernel), pT_mem 1292 (by decide +kernel) (by decide +kernel), pT_mem 36 (by decide +kernel) (by decide +kernel)⟩
theorem cv_RX9_247 : mi_cV pP RX9 247 kX9_isHeard 2 := ⟨cwX9_isHeard _ _, pT_mem 1294 (by decide +kernel) (by decide +kernel), pT_mem 1296 (by decide +kernel) (by decide +kernel), pT_mem 37 (by decide +kernel) (by decide +kernel)⟩
theorem cv_RL_176 : mi_cV pP RL 176 kX9_many 1 := ⟨cwX9_many _ _, pT_mem 1300 (by decide +kernel) (by decide +kernel), pT_mem 1301 (by decide +kernel) (by decide +kernel), pT_mem 1302 (by decide +kernel) (by decide +kernel)⟩
theorem cv_RX9_253 : mi_cV pP RX9 253 kX9_told 1 := ⟨cwX9_told _ _, pT_mem 1304 (by decide +kernel) (by decide +kernel), pT_mem 1306 (by decide +kernel) (by decide +kernel), pT_mem 38 (by decide +kernel) (by decide +kernel)⟩
theorem cv_RL_180 : mi_cV pP RL 180 kX9_wouldTake 2 := ⟨cwX9_wouldTake _ _, pT_mem 1308 (by decide +kernel) (by decide +kernel), pT_mem 1309 (by decide +kernel) (by decide +kernel), pT_mem 1310 (by decide +kernel) (by decide +kernel)⟩
theorem cv_RL_183 : mi_cV pP RL 183 kX9_wouldMend 2 := ⟨cwX9_wouldMend _ _, pT_mem 1312 (by decide +kernel) (by decide +kernel), pT_mem 1313 (by decide +kernel) (by decide +kernel), pT_mem 1314 (by decide +kernel) (by decide +kernel)⟩
theorem cv_RL_188 : mi_cV pP RL 188 kX9_digest 0 := ⟨cwX9_digest _ _, pT_mem 1317 (by decide +kernel) (by decide +kernel), pT_mem 1318 (by decide +kernel) (by decide +kernel), pT_mem 1319 (by decide +kernel) (by decide +kernel)⟩
theorem cs_RX9_261 : mi_cS pP RX9 261 kX9_add 2 := ⟨cwX9_add _ _, pT_mem 1322 (by decide +kernel) (by decide +kernel), pT_mem 1323 (by decide +kernel) (by decide +kernel)⟩
theorem ob_i : Jvm.Cond.instanceMethod objectInit ∈ pP.2.1 := pT_mem 73 (by decide +kernel) (by decide +kernel)
theorem ob_c : Jvm.Cond.code objectInit ⟨#[0xb1]⟩ 1 none ∈ pP.2.1 := pT_mem 74 (by decide +kernel) (by decide +kernel)
theorem iz_RX8 : Jvm.Cond.initialized RX8 ∈ pP.2.1 := pT_mem 40 (by decide +kernel) (by decide +kernel)
theorem iz_RX3 : Jvm.Cond.initialized RX3 ∈ pP.2.1 := pT_mem 41 (by decide +kernel) (by decide +kernel)
theorem iz_RX2 : Jvm.Cond.initialized RX2 ∈ pP.2.1 := pT_mem 42 (by decide +kernel) (by decide +kernel)
theorem iz_RX0 : Jvm.Cond.initialized RX0 ∈ pP.2.1 := pT_mem 43 (by decide +kernel) (by decide +kernel)
theorem iz_RX1 : Jvm.Cond.initialized RX1 ∈ pP.2.1 := pT_mem 44 (by decide +kernel) (by decide +kernel)
theorem iz_RX4 : Jvm.Cond.initialized RX4 ∈ pP.2.1 := pT_mem 45 (by decide +kernel) (by decide +kernel)
theorem iz_RX5 : Jvm.Cond.initialized RX5 ∈ pP.2.1 := pT_mem 46 (by decide +kernel) (by decide +kernel)
theorem iz_RX7 : Jvm.Cond.initialized RX7 ∈ pP.2.1 := pT_mem 47 (by decide +kernel) (by decide +kernel)
theorem iz_RX9 : Jvm.Cond.initialized RX9 ∈ pP.2.1 := pT_mem 48 (by decide +kernel) (by decide +kernel)
theorem iz_RJx4a65c : Jvm.Cond.initialized RJx4a65c ∈ pP.2.1 := pT_mem 51 (by decide +kernel) (by decide +kernel)
theorem iz_IllegalStateException : Jvm.Cond.initialized "java/lang/IllegalStateException" ∈ pP.2.1 := pT_mem 55 (by decide +kernel) (by decide +kernel)
theorem iz_IllegalArgumentException : Jvm.Cond.initialized "java/lang/IllegalArgumentException" ∈ pP.2.1 := pT_mem 56 (by decide +kernel) (by decide +kernel)
theorem iz_IndexOutOfBoundsException : Jvm.Cond.initialized "java/lang/IndexOutOfBoundsException" ∈ pP.2.1 := pT_mem 61 (by decide +kernel) (by decide +kernel)
theorem iz_RJx35411 : Jvm.Cond.initialized RJx35411 ∈ pP.2.1 := pT_mem 65 (by decide +kernel) (by decide +kernel)
theorem iz_RX6 : Jvm.Cond.initialized RX6 ∈ pP.2.1 := pT_mem 66 (by decide +kernel) (by decide +kernel)
theorem cl_RL_8 : Jvm.Cond.classLink RL 8 RX8 ∈ pP.2.1 := pT_mem 67 (by decide +kernel) (by decide +kernel)
theorem it_RX8 : Jvm.Cond.instantiable RX8 10 ∈ pP.2.1 := pT_mem 68 (by decide +kernel) (by decide +kernel)
theorem cl_RX8_9 : Jvm.Cond.classLink RX8 9 RX5 ∈ pP.2.1 := pT_mem 75 (by decide +kernel) (by decide +kernel)
theorem cl_RX8_15 : Jvm.Cond.classLink RX8 15 RX7 ∈ pP.2.1 := pT_mem 77 (by decide +kernel) (by decide +kernel)
theorem cl_RX8_21 : Jvm.Cond.classLink RX8 21 RX3 ∈ pP.2.1 := pT_mem 79 (by decide +kernel) (by decide +kernel)
theorem it_RX3 : Jvm.Cond.instantiable RX3 2 ∈ pP.2.1 := pT_mem 80 (by decide +kernel) (by decide +kernel)
theorem cl_RX3_9 : Jvm.Cond.classLink RX3 9 ("[" ++ (FieldType.array .int).toString) ∈ pP.2.1 := pT_mem 85 (by decide +kernel) (by decide +kernel)
theorem ac_int : Jvm.Cond.arrayClass .int ∈ pP.2.1 := pT_mem 94 (by decide +kernel) (by decide +kernel)
theorem cl_RX8_28 : Jvm.Cond.classLink RX8 28 RX2 ∈ pP.2.1 := pT_mem 95 (by decide +kernel) (by decide +kernel)
theorem it_RX2 : Jvm.Cond.instantiable RX2 5 ∈ pP.2.1 := pT_mem 96 (by decide +kernel) (by decide +kernel)
theorem cl_RX8_35 : Jvm.Cond.classLink RX8 35 RX0 ∈ pP.2.1 := pT_mem 122 (by decide +kernel) (by decide +kernel)
theorem it_RX0 : Jvm.Cond.instantiable RX0 2 ∈ pP.2.1 := pT_mem 123 (by decide +kernel) (by decide +kernel)
theorem cl_RX0_7 : Jvm.Cond.classLink RX0 7 RX1 ∈ pP.2.1 := pT_mem 128 (by decide +kernel) (by decide +kernel)
theorem it_RX1 : Jvm.Cond.instantiable RX1 2 ∈ pP.2.1 := pT_mem 129 (by decide +kernel) (by decide +kernel)
theorem cl_RX0_16 : Jvm.Cond.classLink RX0 16 RX4 ∈ pP.2.1 := pT_mem 143 (by decide +kernel) (by decide +kernel)
theorem it_RX4 : Jvm.Cond.instantiable RX4 4 ∈ pP.2.1 := pT_mem 144 (by decide +kernel) (by decide +kernel)
theorem it_RX5 : Jvm.Cond.instantiable RX5 10 ∈ pP.2.1 := pT_mem 175 (by decide +kernel) (by decide +kernel)
theorem cl_RX5_9 : Jvm.Cond.classLink RX5 9 RX1 ∈ pP.2.1 := pT_mem 180 (by decide +kernel) (by decide +kernel)
theorem kc_RX5_32 : Jvm.Cond.constantLong RX5 32 (-1 : Int64) ∈ pP.2.1 := pT_mem 182 (by decide +kernel) (by decide +kernel)
theorem it_RX7 : Jvm.Cond.instantiable RX7 7 ∈ pP.2.1 := pT_mem 221 (by decide +kernel) (by decide +kernel)
theorem kc_RX8_323 : Jvm.Cond.constantLong RX8 323 (9600 : Int64) ∈ pP.2.1 := pT_mem 302 (by decide +kernel) (by decide +kernel)
theorem kc_RX8_325 : Jvm.Cond.constantLong RX8 325 (31 : Int64) ∈ pP.2.1 := pT_mem 303 (by decide +kernel) (by decide +kernel)
theorem cl_RX8_74 : Jvm.Cond.classLink RX8 74 "java/lang/IllegalArgumentException" ∈ pP.2.1 := pT_mem 312 (by decide +kernel) (by decide +kernel)
theorem it_IllegalArgumentException : Jvm.Cond.instantiable "java/lang/IllegalArgumentException" 6 ∈ pP.2.1 := pT_mem 313 (by decide +kernel) (by decide +kernel)
theorem ac_byte : Jvm.Cond.arrayClass .byte ∈ pP.2.1 := pT_mem 379 (by decide +kernel) (by decide +kernel)
theorem cl_RX8_246 : Jvm.Cond.classLink RX8 246 "java/lang/IndexOutOfBoundsException" ∈ pP.2.1 := pT_mem 392 (by decide +kernel) (by decide +kernel)
theorem it_IndexOutOfBoundsException : Jvm.Cond.instantiable "java/lang/IndexOutOfBoundsException" 6 ∈ pP.2.1 := pT_mem 393 (by decide +kernel) (by decide +kernel)
theorem kc_RJ6_265 : Jvm.Cond.constant RJ6 265 (1431655765 : Int32) ∈ pP.2.1 := pT_mem 447 (by decide +kernel) (by decide +kernel)
theorem kc_RJ6_266 : Jvm.Cond.constant RJ6 266 (858993459 : Int32) ∈ pP.2.1 := pT_mem 448 (by decide +kernel) (by decide +kernel)
theorem kc_RJ6_267 : Jvm.Cond.constant RJ6 267 (252645135 : Int32) ∈ pP.2.1 := pT_mem 449 (by decide +kernel) (by decide +kernel)
theorem cl_RL_13 : Jvm.Cond.classLink RL 13 "java/lang/IllegalStateException" ∈ pP.2.1 := pT_mem 516 (by decide +kernel) (by decide +kernel)
theorem cl_RX8_67 : Jvm.Cond.classLink RX8 67 "java/lang/IllegalStateException" ∈ pP.2.1 := pT_mem 525 (by decide +kernel) (by decide +kernel)
theorem it_IllegalStateException : Jvm.Cond.instantiable "java/lang/IllegalStateException" 6 ∈ pP.2.1 := pT_mem 526 (by decide +kernel) (by decide +kernel)
theorem cl_RL_19 : Jvm.Cond.classLink RL 19 "java/lang/IllegalArgumentException" ∈ pP.2.1 := pT_mem 544 (by decide +kernel) (by decide +kernel)
theorem cl_RL_25 : Jvm.Cond.classLink RL 25 "java/lang/IndexOutOfBoundsException" ∈ pP.2.1 := pT_mem 559 (by decide +kernel) (by decide +kernel)
theorem kc_RX8_95 : Jvm.Cond.constantLong RX8 95 (68719476735 : Int64) ∈ pP.2.1 := pT_mem 564 (by decide +kernel) (by decide +kernel)
theorem kc_RX1_19 : Jvm.Cond.constantLong RX1 19 (15 : Int64) ∈ pP.2.1 := pT_mem 593 (by decide +kernel) (by decide +kernel)
theorem kc_RX1_21 : Jvm.Cond.constantLong RX1 21 (-1 : Int64) ∈ pP.2.1 := pT_mem 594 (by decide +kernel) (by decide +kernel)
theorem kc_RJ6_264 : Jvm.Cond.constant RJ6 264 (65536 : Int32) ∈ pP.2.1 := pT_mem 621 (by decide +kernel) (by decide +kernel)
theorem kc_RX6_20 : Jvm.Cond.constantDouble RX6 20 (4645040803167600640 : UInt64) ∈ pP.2.1 := pT_mem 717 (by decide +kernel) (by decide +kernel)
theorem kc_RX2_29 : Jvm.Cond.constantDouble RX2 29 (4611686018427387904 : UInt64) ∈ pP.2.1 := pT_mem 763 (by decide +kernel) (by decide +kernel)
theorem kc_RX2_31 : Jvm.Cond.constantDouble RX2 31 (4598175219545276416 : UInt64) ∈ pP.2.1 := pT_mem 764 (by decide +kernel) (by decide +kernel)
theorem kc_RX2_48 : Jvm.Cond.constantDouble RX2 48 (4636033603912859648 : UInt64) ∈ pP.2.1 := pT_mem 768 (by decide +kernel) (by decide +kernel)
theorem kc_RX2_54 : Jvm.Cond.constantDouble RX2 54 (4645040803167600640 : UInt64) ∈ pP.2.1 := pT_mem 772 (by decide +kernel) (by decide +kernel)
theorem kc_RX2_60 : Jvm.Cond.constantDouble RX2 60 (4602678819172646912 : UInt64) ∈ pP.2.1 := pT_mem 773 (by decide +kernel) (by decide +kernel)
theorem kc_RX6_22 : Jvm.Cond.constantFloat RX6 22 (1067450368 : UInt32) ∈ pP.2.1 := pT_mem 777 (by decide +kernel) (by decide +kernel)
theorem kc_RX6_23 : Jvm.Cond.constantFloat RX6 23 (1069547520 : UInt32) ∈ pP.2.1 := pT_mem 778 (by decide +kernel) (by decide +kernel)
theorem kc_RX8_363 : Jvm.Cond.constantFloat RX8 363 (1056964608 : UInt32) ∈ pP.2.1 := pT_mem 842 (by decide +kernel) (by decide +kernel)
theorem kc_RX8_364 : Jvm.Cond.constantFloat RX8 364 (1061158912 : UInt32) ∈ pP.2.1 := pT_mem 843 (by decide +kernel) (by decide +kernel)
theorem kc_RX8_313 : Jvm.Cond.constant RX8 313 (65535 : Int32) ∈ pP.2.1 := pT_mem 868 (by decide +kernel) (by decide +kernel)
theorem cl_RL_88 : Jvm.Cond.classLink RL 88 RX9 ∈ pP.2.1 := pT_mem 874 (by decide +kernel) (by decide +kernel)
theorem it_RX9 : Jvm.Cond.instantiable RX9 15 ∈ pP.2.1 := pT_mem 875 (by decide +kernel) (by decide +kernel)
theorem cl_RX9_9 : Jvm.Cond.classLink RX9 9 (FieldType.array .int).toString ∈ pP.2.1 := pT_mem 880 (by decide +kernel) (by decide +kernel)
theorem cl_RX9_18 : Jvm.Cond.classLink RX9 18 RJx4a65c ∈ pP.2.1 := pT_mem 881 (by decide +kernel) (by decide +kernel)
theorem it_RJx4a65c : Jvm.Cond.instantiable RJx4a65c 3 ∈ pP.2.1 := pT_mem 882 (by decide +kernel) (by decide +kernel)
theorem kc_RJ8_200 : Jvm.Cond.constant RJ8 200 (2147483639 : Int32) ∈ pP.2.1 := pT_mem 1003 (by decide +kernel) (by decide +kernel)
theorem kc_RX9_141 : Jvm.Cond.constantLong RX9 141 (68719476735 : Int64) ∈ pP.2.1 := pT_mem 1048 (by decide +kernel) (by decide +kernel)
theorem kc_RX9_54 : Jvm.Cond.constantLong RX9 54 (15 : Int64) ∈ pP.2.1 := pT_mem 1073 (by decide +kernel) (by decide +kernel)
theorem cl_RJx4a65c_267 : Jvm.Cond.classLink RJx4a65c 267 RJx35411 ∈ pP.2.1 := pT_mem 1096 (by decide +kernel) (by decide +kernel)
theorem it_RJx35411 : Jvm.Cond.instantiable RJx35411 4 ∈ pP.2.1 := pT_mem 1097 (by decide +kernel) (by decide +kernel)
theorem kc_RX9_169 : Jvm.Cond.constantDouble RX9 169 (4645040803167600640 : UInt64) ∈ pP.2.1 := pT_mem 1159 (by decide +kernel) (by decide +kernel)
theorem kc_RX9_184 : Jvm.Cond.constantDouble RX9 184 (4611686018427387904 : UInt64) ∈ pP.2.1 := pT_mem 1179 (by decide +kernel) (by decide +kernel)
theorem kc_RX9_186 : Jvm.Cond.constantDouble RX9 186 (4598175219545276416 : UInt64) ∈ pP.2.1 := pT_mem 1180 (by decide +kernel) (by decide +kernel)
theorem kc_RX9_188 : Jvm.Cond.constantDouble RX9 188 (4636033603912859648 : UInt64) ∈ pP.2.1 := pT_mem 1182 (by decide +kernel) (by decide +kernel)
theorem kc_RX9_190 : Jvm.Cond.constantFloat RX9 190 (1067450368 : UInt32) ∈ pP.2.1 := pT_mem 1186 (by decide +kernel) (by decide +kernel)
theorem kc_RX9_191 : Jvm.Cond.constantFloat RX9 191 (1069547520 : UInt32) ∈ pP.2.1 := pT_mem 1187 (by decide +kernel) (by decide +kernel)
theorem kc_RX9_192 : Jvm.Cond.constantDouble RX9 192 (4602678819172646912 : UInt64) ∈ pP.2.1 := pT_mem 1188 (by decide +kernel) (by decide +kernel)
theorem kc_RX9_60 : Jvm.Cond.constantLong RX9 60 (16 : Int64) ∈ pP.2.1 := pT_mem 1217 (by decide +kernel) (by decide +kernel)
theorem kc_RX9_227 : Jvm.Cond.constantLong RX9 227 (-1 : Int64) ∈ pP.2.1 := pT_mem 1261 (by decide +kernel) (by decide +kernel)
theorem kc_RX9_251 : Jvm.Cond.constantFloat RX9 251 (1056964608 : UInt32) ∈ pP.2.1 := pT_mem 1298 (by decide +kernel) (by decide +kernel)
theorem kc_RX9_252 : Jvm.Cond.constantFloat RX9 252 (1061158912 : UInt32) ∈ pP.2.1 := pT_mem 1299 (by decide +kernel) (by decide +kernel)
theorem kc_RX9_256 : Jvm.Cond.constant RX9 256 (65535 : Int32) ∈ pP.2.1 := pT_mem 1316 (by decide +kernel) (by decide +kernel)
theorem kc_RX9_259 : Jvm.Cond.constantLong RX9 259 (9600 : Int64) ∈ pP.2.1 := pT_mem 1321 (by decide +kernel) (by decide +kernel)
theorem kc_RX9_257 : Jvm.Cond.constantLong RX9 257 (31 : Int64) ∈ pP.2.1 := pT_mem 1325 (by decide +kernel) (by decide +kernel)
theorem kc_RL_104 : Jvm.Cond.constantLong RL 104 (4294967295 : Int64) ∈ pP.2.1 := pT_mem 1326 (by decide +kernel) (by decide +kernel)
theorem ac_long : Jvm.Cond.arrayClass .long ∈ pP.2.1 := pT_mem 1327 (by decide +kernel) (by decide +kernel)
theorem ac_double : Jvm.Cond.arrayClass .double ∈ pP.2.1 := pT_mem 1328 (by decide +kernel) (by decide +kernel)
theorem ca_IllegalArgumentException : ∀ (b0 : Nat) (U : State) (H : Heap), pP.2.2.2.2.2.2.2.2 b0 U H → va_Nw (Jvm.Cond.castable "java/lang/IllegalArgumentException" "java/lang/IllegalArgumentException") U := fun _ _ _ h => h.2.2.2.2.2.1 _ (by simp [pE])
theorem ca_IndexOutOfBoundsException : ∀ (b0 : Nat) (U : State) (H : Heap), pP.2.2.2.2.2.2.2.2 b0 U H → va_Nw (Jvm.Cond.castable "java/lang/IndexOutOfBoundsException" "java/lang/IndexOutOfBoundsException") U := fun _ _ _ h => h.2.2.2.2.2.1 _ (by simp [pE])
theorem ca_IllegalStateException : ∀ (b0 : Nat) (U : State) (H : Heap), pP.2.2.2.2.2.2.2.2 b0 U H → va_Nw (Jvm.Cond.castable "java/lang/IllegalStateException" "java/lang/IllegalStateException") U := fun _ _ _ h => h.2.2.2.2.2.1 _ (by simp [pE])
theorem cFw_RX9_154 : ∀ w ∈ ([.methodLink RX9 154 pF, .selects RJx35411 pF yJx35411_hasNext_aae02, .instanceMethod yJx35411_hasNext_aae02, .initialized RJx35411] : List Cond), w ∈ pP.2.1 := by
  intro w hw
  have h : ([.methodLink RX9 154 pF, .selects RJx35411 pF yJx35411_hasNext_aae02, .instanceMethod yJx35411_hasNext_aae02, .initialized RJx35411] : List Cond).all (fun w => lw_tbl.contains w && goodWord w) = true := by decide +kernel
  have h2 := List.all_eq_true.mp h w hw
  rw [Bool.and_eq_true] at h2
  exact List.mem_filter.mpr ⟨List.contains_iff_mem.mp h2.1, h2.2⟩
theorem cF_RX9_154 : mi_cF pP RX9 154 kJx35411_hasNext_aae02 0 pF := ⟨⟨pT_mem 1124 (by decide +kernel) (by decide +kernel), by decide⟩, cFw_RX9_154, ⟨by decide, by decide, by decide +kernel⟩, fun _ _ _ h => h.2.2.2.2.2.2⟩
theorem fs_RJx35411_17 : mi_fs pP RJx35411 17 13 0 := ⟨RJx4a65c, RJx4a65c, TJx4a65c, 3, tyJx4a65c, cfJx4a65c, by decide, pT_mem 900 (by decide +kernel) (by decide +kernel), pT_mem 901 (by decide +kernel) (by decide +kernel)⟩
theorem xa_67 : ∀ w ∈ Cond.classLink RX8 67 "java/lang/IllegalStateException" :: Cond.initialized "java/lang/IllegalStateException" :: vx_atS RX8 71 "java/lang/IllegalStateException" ["java/lang/RuntimeException", "java/lang/Exception"], (w ∈ pP.2.1 ∨ w.onTables = true ∧ ∀ (b0 : Nat) (U : State) (H : Heap), pP.2.2.2.2.2.2.2.2 b0 U H → va_Nw w U) ∧ vx_ot w = true := by
  intro w hw
  have h : (Cond.classLink RX8 67 "java/lang/IllegalStateException" :: Cond.initialized "java/lang/IllegalStateException" :: vx_atS RX8 71 "java/lang/IllegalStateException" ["java/lang/RuntimeException", "java/lang/Exception"]).all (fun w => ((lw_tbl.contains w && goodWord w) || (pE.contains w && w.onTables)) && vx_ot w) = true := by decide +kernel
  have h2 := List.all_eq_true.mp h w hw
  rw [Bool.and_eq_true, Bool.or_eq_true, Bool.and_eq_true, Bool.and_eq_true] at h2
  refine ⟨h2.1.elim (fun q => Or.inl (List.mem_filter.mpr ⟨List.contains_iff_mem.mp q.1, q.2⟩)) (fun q => Or.inr ⟨q.2, fun _ _ _ hk => hk.2.2.2.2.2.1 w (List.contains_iff_mem.mp q.1)⟩), h2.2⟩
theorem xw_69 : mi_xw pP RX8 67 69 71 10 "java/lang/IllegalStateException" "no SESSION can be opened" ["java/lang/RuntimeException", "java/lang/Exception"] := ⟨⟨rfl, by decide, by decide⟩, xa_67, fun _ _ _ h => ⟨h.1.1, h.1.2, h.2.1 (69, "no SESSION can be opened") (by decide +kernel)⟩⟩
theorem xa_74 : ∀ w ∈ Cond.classLink RX8 74 "java/lang/IllegalArgumentException" :: Cond.initialized "java/lang/IllegalArgumentException" :: vx_atS RX8 78 "java/lang/IllegalArgumentException" ["java/lang/RuntimeException", "java/lang/Exception"], (w ∈ pP.2.1 ∨ w.onTables = true ∧ ∀ (b0 : Nat) (U : State) (H : Heap), pP.2.2.2.2.2.2.2.2 b0 U H → va_Nw w U) ∧ vx_ot w = true := by
  intro w hw
  have h : (Cond.classLink RX8 74 "java/lang/IllegalArgumentException" :: Cond.initialized "java/lang/IllegalArgumentException" :: vx_atS RX8 78 "java/lang/IllegalArgumentException" ["java/lang/RuntimeException", "java/lang/Exception"]).all (fun w => ((lw_tbl.contains w && goodWord w) || (pE.contains w && w.onTables)) && vx_ot w) = true := by decide +kernel
  have h2 := List.all_eq_true.mp h w hw
  rw [Bool.and_eq_true, Bool.or_eq_true, Bool.and_eq_true, Bool.and_eq_true] at h2
  refine ⟨h2.1.elim (fun q => Or.inl (List.mem_filter.mpr ⟨List.contains_iff_mem.mp q.1, q.2⟩)) (fun q => Or.inr ⟨q.2, fun _ _ _ hk => hk.2.2.2.2.2.1 w (List.contains_iff_mem.mp q.1)⟩), h2.2⟩
theorem xw_76 : mi_xw pP RX8 74 76 78 11 "java/lang/IllegalArgumentException" "no such mode, or not 1 to 40 SECTORS" ["java/lang/RuntimeException", "java/lang/Exception"] := ⟨⟨rfl, by decide, by decide⟩, xa_74, fun _ _ _ h => ⟨h.1.1, h.1.2, h.2.1 (76, "no such mode, or not 1 to 40 SECTORS") (by decide +kernel)⟩⟩
theorem xw_79 : mi_xw pP RX8 67 79 71 10 "java/lang/IllegalStateException" "no TRACK can be opened" ["java/lang/RuntimeException", "java/lang/Exception"] := ⟨⟨rfl, by decide, by decide⟩, xa_67, fun _ _ _ h => ⟨h.1.1, h.1.2, h.2.1 (79, "no TRACK can be opened") (by decide +kernel)⟩⟩
theorem xw_97 : mi_xw pP RX8 74 97 78 11 "java/lang/IllegalArgumentException" "not nine NIBBLES" ["java/lang/RuntimeException", "java/lang/Exception"] := ⟨⟨rfl, by decide, by decide⟩, xa_74, fun _ _ _ h => ⟨h.1.1, h.1.2, h.2.1 (97, "not nine NIBBLES") (by decide +kernel)⟩⟩
theorem xw_103 : mi_xw pP RX8 67 103 71 10 "java/lang/IllegalStateException" "the TRACK is CLOSED or full" ["java/lang/RuntimeException", "java/lang/Exception"] := ⟨⟨rfl, by decide, by decide⟩, xa_67, fun _ _ _ h => ⟨h.1.1, h.1.2, h.2.1 (103, "the TRACK is CLOSED or full") (by decide +kernel)⟩⟩
theorem xw_115 : mi_xw pP RX8 67 115 71 10 "java/lang/IllegalStateException" "the TRACK is CLOSED or full, or there is no CALIBRATION" ["java/lang/RuntimeException", "java/lang/Exception"] := ⟨⟨rfl, by decide, by decide⟩, xa_67, fun _ _ _ h => ⟨h.1.1, h.1.2, h.2.1 (115, "the TRACK is CLOSED or full, or there is no CALIBRATION") (by decide +kernel)⟩⟩
theorem xw_123 : mi_xw pP RX8 67 123 71 10 "java/lang/IllegalStateException" "the TRACK is CLOSED" ["java/lang/RuntimeException", "java/lang/Exception"] := ⟨⟨rfl, by decide, by decide⟩, xa_67, fun _ _ _ h => ⟨h.1.1, h.1.2, h.2.1 (123, "the TRACK is CLOSED") (by decide +kernel)⟩⟩
theorem xw_131 : mi_xw pP RX8 67 131 71 10 "java/lang/IllegalStateException" "no SESSION can be CLOSED" ["java/lang/RuntimeException", "java/lang/Exception"] := ⟨⟨rfl, by decide, by decide⟩, xa_67, fun _ _ _ h => ⟨h.1.1, h.1.2, h.2.1 (131, "no SESSION can be CLOSED") (by decide +kernel)⟩⟩
theorem xw_140 : mi_xw pP RX8 74 140 78 11 "java/lang/IllegalArgumentException" "no such SECTOR, or not 1 to 20 SECTORS" ["java/lang/RuntimeException", "java/lang/Exception"] := ⟨⟨rfl, by decide, by decide⟩, xa_74, fun _ _ _ h => ⟨h.1.1, h.1.2, h.2.1 (140, "no such SECTOR, or not 1 to 20 SECTORS") (by decide +kernel)⟩⟩
theorem xw_149 : mi_xw pP RX8 74 149 78 11 "java/lang/IllegalArgumentException" "the FILE is not in one DATA TRACK whole" ["java/lang/RuntimeException", "java/lang/Exception"] := ⟨⟨rfl, by decide, by decide⟩, xa_74, fun _ _ _ h => ⟨h.1.1, h.1.2, h.2.1 (149, "the FILE is not in one DATA TRACK whole") (by decide +kernel)⟩⟩
theorem xw_151 : mi_xw pP RX8 67 151 71 10 "java/lang/IllegalStateException" "no SESSION is open" ["java/lang/RuntimeException", "java/lang/Exception"] := ⟨⟨rfl, by decide, by decide⟩, xa_67, fun _ _ _ h => ⟨h.1.1, h.1.2, h.2.1 (151, "no SESSION is open") (by decide +kernel)⟩⟩
theorem xw_156 : mi_xw pP RX8 74 156 78 11 "java/lang/IllegalArgumentException" "no such turns" ["java/lang/RuntimeException", "java/lang/Exception"] := ⟨⟨rfl, by decide, by decide⟩, xa_74, fun _ _ _ h => ⟨h.1.1, h.1.2, h.2.1 (156, "no such turns") (by decide +kernel)⟩⟩
theorem xw_158 : mi_xw pP RX8 74 158 78 11 "java/lang/IllegalArgumentException" "no such angles" ["java/lang/RuntimeException", "java/lang/Exception"] := ⟨⟨rfl, by decide, by decide⟩, xa_74, fun _ _ _ h => ⟨h.1.1, h.1.2, h.2.1 (158, "no such angles") (by decide +kernel)⟩⟩
theorem xw_176 : mi_xw pP RX8 74 176 78 11 "java/lang/IllegalArgumentException" "not 0 to 999" ["java/lang/RuntimeException", "java/lang/Exception"] := ⟨⟨rfl, by decide, by decide⟩, xa_74, fun _ _ _ h => ⟨h.1.1, h.1.2, h.2.1 (176, "not 0 to 999") (by decide +kernel)⟩⟩
theorem xw_191 : mi_xw pP RX8 67 191 71 10 "java/lang/IllegalStateException" "the TRAY is open" ["java/lang/RuntimeException", "java/lang/Exception"] := ⟨⟨rfl, by decide, by decide⟩, xa_67, fun _ _ _ h => ⟨h.1.1, h.1.2, h.2.1 (191, "the TRAY is open") (by decide +kernel)⟩⟩
theorem xw_236 : mi_xw pP RX8 74 236 78 11 "java/lang/IllegalArgumentException" "not 0 to 8" ["java/lang/RuntimeException", "java/lang/Exception"] := ⟨⟨rfl, by decide, by decide⟩, xa_74, fun _ _ _ h => ⟨h.1.1, h.1.2, h.2.1 (236, "not 0 to 8") (by decide +kernel)⟩⟩
theorem xa_246 : ∀ w ∈ Cond.classLink RX8 246 "java/lang/IndexOutOfBoundsException" :: Cond.initialized "java/lang/IndexOutOfBoundsException" :: vx_atS RX8 250 "java/lang/IndexOutOfBoundsException" ["java/lang/RuntimeException", "java/lang/Exception"], (w ∈ pP.2.1 ∨ w.onTables = true ∧ ∀ (b0 : Nat) (U : State) (H : Heap), pP.2.2.2.2.2.2.2.2 b0 U H → va_Nw w U) ∧ vx_ot w = true := by
  intro w hw
  have h : (Cond.classLink RX8 246 "java/lang/IndexOutOfBoundsException" :: Cond.initialized "java/lang/IndexOutOfBoundsException" :: vx_atS RX8 250 "java/lang/IndexOutOfBoundsException" ["java/lang/RuntimeException", "java/lang/Exception"]).all (fun w => ((lw_tbl.contains w && goodWord w) || (pE.contains w && w.onTables)) && vx_ot w) = true := by decide +kernel
  have h2 := List.all_eq_true.mp h w hw
  rw [Bool.and_eq_true, Bool.or_eq_true, Bool.and_eq_true, Bool.and_eq_true] at h2
  refine ⟨h2.1.elim (fun q => Or.inl (List.mem_filter.mpr ⟨List.contains_iff_mem.mp q.1, q.2⟩)) (fun q => Or.inr ⟨q.2, fun _ _ _ hk => hk.2.2.2.2.2.1 w (List.contains_iff_mem.mp q.1)⟩), h2.2⟩
theorem xw_248 : mi_xw pP RX8 246 248 250 12 "java/lang/IndexOutOfBoundsException" "no such PLACE" ["java/lang/RuntimeException", "java/lang/Exception"] := ⟨⟨rfl, by decide, by decide⟩, xa_246, fun _ _ _ h => ⟨h.1.1, h.1.2, h.2.1 (248, "no such PLACE") (by decide +kernel)⟩⟩
theorem xw_270 : mi_xw pP RX8 74 270 78 11 "java/lang/IllegalArgumentException" "not 0 to 7" ["java/lang/RuntimeException", "java/lang/Exception"] := ⟨⟨rfl, by decide, by decide⟩, xa_74, fun _ _ _ h => ⟨h.1.1, h.1.2, h.2.1 (270, "not 0 to 7") (by decide +kernel)⟩⟩
theorem xw_272 : mi_xw pP RX8 246 272 250 12 "java/lang/IndexOutOfBoundsException" "no such SESSION" ["java/lang/RuntimeException", "java/lang/Exception"] := ⟨⟨rfl, by decide, by decide⟩, xa_246, fun _ _ _ h => ⟨h.1.1, h.1.2, h.2.1 (272, "no such SESSION") (by decide +kernel)⟩⟩
theorem xw_274 : mi_xw pP RX8 74 274 78 11 "java/lang/IllegalArgumentException" "not 0 to 2" ["java/lang/RuntimeException", "java/lang/Exception"] := ⟨⟨rfl, by decide, by decide⟩, xa_74, fun _ _ _ h => ⟨h.1.1, h.1.2, h.2.1 (274, "not 0 to 2") (by decide +kernel)⟩⟩
theorem xw_285 : mi_xw pP RX8 74 285 78 11 "java/lang/IllegalArgumentException" "not of a SOUND TRACK" ["java/lang/RuntimeException", "java/lang/Exception"] := ⟨⟨rfl, by decide, by decide⟩, xa_74, fun _ _ _ h => ⟨h.1.1, h.1.2, h.2.1 (285, "not of a SOUND TRACK") (by decide +kernel)⟩⟩
theorem xw_301 : mi_xw pP RX8 74 301 78 11 "java/lang/IllegalArgumentException" "not 0 to 12" ["java/lang/RuntimeException", "java/lang/Exception"] := ⟨⟨rfl, by decide, by decide⟩, xa_74, fun _ _ _ h => ⟨h.1.1, h.1.2, h.2.1 (301, "not 0 to 12") (by decide +kernel)⟩⟩
theorem xw_303 : mi_xw pP RX8 74 303 78 11 "java/lang/IllegalArgumentException" "not 1 to 40 SECTORS" ["java/lang/RuntimeException", "java/lang/Exception"] := ⟨⟨rfl, by decide, by decide⟩, xa_74, fun _ _ _ h => ⟨h.1.1, h.1.2, h.2.1 (303, "not 1 to 40 SECTORS") (by decide +kernel)⟩⟩
theorem xw_314 : mi_xw pP RX8 74 314 78 11 "java/lang/IllegalArgumentException" "no set of PLACES" ["java/lang/RuntimeException", "java/lang/Exception"] := ⟨⟨rfl, by decide, by decide⟩, xa_74, fun _ _ _ h => ⟨h.1.1, h.1.2, h.2.1 (314, "no set of PLACES") (by decide +kernel)⟩⟩
theorem xw_354 : mi_xw pP RX8 246 354 250 12 "java/lang/IndexOutOfBoundsException" "no such SECTOR" ["java/lang/RuntimeException", "java/lang/Exception"] := ⟨⟨rfl, by decide, by decide⟩, xa_246, fun _ _ _ h => ⟨h.1.1, h.1.2, h.2.1 (354, "no such SECTOR") (by decide +kernel)⟩⟩
theorem xw_356 : mi_xw pP RX8 246 356 250 12 "java/lang/IndexOutOfBoundsException" "no such FILE" ["java/lang/RuntimeException", "java/lang/Exception"] := ⟨⟨rfl, by decide, by decide⟩, xa_246, fun _ _ _ h => ⟨h.1.1, h.1.2, h.2.1 (356, "no such FILE") (by decide +kernel)⟩⟩
theorem xw_358 : mi_xw pP RX8 246 358 250 12 "java/lang/IndexOutOfBoundsException" "no such TRACK" ["java/lang/RuntimeException", "java/lang/Exception"] := ⟨⟨rfl, by decide, by decide⟩, xa_246, fun _ _ _ h => ⟨h.1.1, h.1.2, h.2.1 (358, "no such TRACK") (by decide +kernel)⟩⟩
