-- ===== PART A: goes FIRST, ahead of the names: the tables' words, and 'selects' of the private methods out of them =====
/-- a private method of a class that the tables say can be made, by its rows of tables_1 -/
def lw_okq (q : MethodName × Nat) : Prop := (q.1.cls ≠ "java/lang/invoke/MethodHandle" ∧ q.1.cls ≠ "java/lang/invoke/VarHandle") ∧ Cond.instantiable q.1.cls q.2 ∈ tables_1 ∧ Cond.privateMethod q.1 ∈ tables_1 ∧ Cond.instanceMethod q.1 ∈ tables_1
theorem lw_p0 : lw_okq (⟨"PitHouse", "writtenOf", "(I)I"⟩, 10) := ⟨⟨by decide +kernel, by decide +kernel⟩, List.mem_of_getElem? (i := 29) (by decide +kernel), List.mem_of_getElem? (i := 270) (by decide +kernel), List.mem_of_getElem? (i := 271) (by decide +kernel)⟩
theorem lw_p1 : lw_okq (⟨"java/lang/Throwable", "fillInStackTrace", "(I)Ljava/lang/Throwable;"⟩, 6) := ⟨⟨by decide +kernel, by decide +kernel⟩, List.mem_of_getElem? (i := 312) (by decide +kernel), List.mem_of_getElem? (i := 310) (by decide +kernel), List.mem_of_getElem? (i := 311) (by decide +kernel)⟩
theorem lw_p2 : lw_okq (⟨"PitHouse", "digestTracks", "(J)J"⟩, 10) := ⟨⟨by decide +kernel, by decide +kernel⟩, List.mem_of_getElem? (i := 29) (by decide +kernel), List.mem_of_getElem? (i := 342) (by decide +kernel), List.mem_of_getElem? (i := 343) (by decide +kernel)⟩
theorem lw_p3 : lw_okq (⟨"PitHouse", "trackAt", "(I)LPitHouse$Track;"⟩, 10) := ⟨⟨by decide +kernel, by decide +kernel⟩, List.mem_of_getElem? (i := 29) (by decide +kernel), List.mem_of_getElem? (i := 350) (by decide +kernel), List.mem_of_getElem? (i := 351) (by decide +kernel)⟩
theorem lw_p4 : lw_okq (⟨"PitHouse", "goodFrom", "(II)I"⟩, 10) := ⟨⟨by decide +kernel, by decide +kernel⟩, List.mem_of_getElem? (i := 29) (by decide +kernel), List.mem_of_getElem? (i := 370) (by decide +kernel), List.mem_of_getElem? (i := 371) (by decide +kernel)⟩
theorem lw_p5 : lw_okq (⟨"PitHouse", "isGood", "(I)Z"⟩, 10) := ⟨⟨by decide +kernel, by decide +kernel⟩, List.mem_of_getElem? (i := 29) (by decide +kernel), List.mem_of_getElem? (i := 374) (by decide +kernel), List.mem_of_getElem? (i := 375) (by decide +kernel)⟩
theorem lw_p6 : lw_okq (⟨"PitHouse", "digestSectors", "(J)J"⟩, 10) := ⟨⟨by decide +kernel, by decide +kernel⟩, List.mem_of_getElem? (i := 29) (by decide +kernel), List.mem_of_getElem? (i := 382) (by decide +kernel), List.mem_of_getElem? (i := 383) (by decide +kernel)⟩
theorem lw_p7 : lw_okq (⟨"PitHouse", "trackOf", "(I)I"⟩, 10) := ⟨⟨by decide +kernel, by decide +kernel⟩, List.mem_of_getElem? (i := 29) (by decide +kernel), List.mem_of_getElem? (i := 394) (by decide +kernel), List.mem_of_getElem? (i := 395) (by decide +kernel)⟩
theorem lw_p8 : lw_okq (⟨"PitHouse$Sector", "mixed", "(J)J"⟩, 10) := ⟨⟨by decide +kernel, by decide +kernel⟩, List.mem_of_getElem? (i := 136) (by decide +kernel), List.mem_of_getElem? (i := 445) (by decide +kernel), List.mem_of_getElem? (i := 446) (by decide +kernel)⟩
theorem lw_p9 : lw_okq (⟨"PitHouse", "digestFiles", "(J)J"⟩, 10) := ⟨⟨by decide +kernel, by decide +kernel⟩, List.mem_of_getElem? (i := 29) (by decide +kernel), List.mem_of_getElem? (i := 449) (by decide +kernel), List.mem_of_getElem? (i := 450) (by decide +kernel)⟩
theorem lw_p10 : lw_okq (⟨"PitHouse", "left", "()I"⟩, 10) := ⟨⟨by decide +kernel, by decide +kernel⟩, List.mem_of_getElem? (i := 29) (by decide +kernel), List.mem_of_getElem? (i := 483) (by decide +kernel), List.mem_of_getElem? (i := 484) (by decide +kernel)⟩
theorem lw_p11 : lw_okq (⟨"PitHouse$Block", "parityOf", "(I)I"⟩, 2) := ⟨⟨by decide +kernel, by decide +kernel⟩, List.mem_of_getElem? (i := 90) (by decide +kernel), List.mem_of_getElem? (i := 557) (by decide +kernel), List.mem_of_getElem? (i := 558) (by decide +kernel)⟩
theorem lw_p12 : lw_okq (⟨"PitHouse$Sector", "reckon", "(LPitHouse$Bench;)V"⟩, 10) := ⟨⟨by decide +kernel, by decide +kernel⟩, List.mem_of_getElem? (i := 136) (by decide +kernel), List.mem_of_getElem? (i := 561) (by decide +kernel), List.mem_of_getElem? (i := 562) (by decide +kernel)⟩
theorem lw_p13 : lw_okq (⟨"PitHouse$Block", "fillErased", "()V"⟩, 2) := ⟨⟨by decide +kernel, by decide +kernel⟩, List.mem_of_getElem? (i := 90) (by decide +kernel), List.mem_of_getElem? (i := 573) (by decide +kernel), List.mem_of_getElem? (i := 574) (by decide +kernel)⟩
theorem lw_p14 : lw_okq (⟨"PitHouse$Block", "onlyOddOf", "(I)I"⟩, 2) := ⟨⟨by decide +kernel, by decide +kernel⟩, List.mem_of_getElem? (i := 90) (by decide +kernel), List.mem_of_getElem? (i := 584) (by decide +kernel), List.mem_of_getElem? (i := 585) (by decide +kernel)⟩
theorem lw_p15 : lw_okq (⟨"PitHouse$Sector", "judged", "(LPitHouse$Block;)I"⟩, 10) := ⟨⟨by decide +kernel, by decide +kernel⟩, List.mem_of_getElem? (i := 136) (by decide +kernel), List.mem_of_getElem? (i := 588) (by decide +kernel), List.mem_of_getElem? (i := 589) (by decide +kernel)⟩
def lw_privs_1 : List (MethodName × Nat) := [(⟨"PitHouse", "writtenOf", "(I)I"⟩, 10), (⟨"java/lang/Throwable", "fillInStackTrace", "(I)Ljava/lang/Throwable;"⟩, 6), (⟨"PitHouse", "digestTracks", "(J)J"⟩, 10), (⟨"PitHouse", "trackAt", "(I)LPitHouse$Track;"⟩, 10), (⟨"PitHouse", "goodFrom", "(II)I"⟩, 10), (⟨"PitHouse", "isGood", "(I)Z"⟩, 10), (⟨"PitHouse", "digestSectors", "(J)J"⟩, 10), (⟨"PitHouse", "trackOf", "(I)I"⟩, 10), (⟨"PitHouse$Sector", "mixed", "(J)J"⟩, 10), (⟨"PitHouse", "digestFiles", "(J)J"⟩, 10), (⟨"PitHouse", "left", "()I"⟩, 10), (⟨"PitHouse$Block", "parityOf", "(I)I"⟩, 2), (⟨"PitHouse$Sector", "reckon", "(LPitHouse$Bench;)V"⟩, 10), (⟨"PitHouse$Block", "fillErased", "()V"⟩, 2), (⟨"PitHouse$Block", "onlyOddOf", "(I)I"⟩, 2), (⟨"PitHouse$Sector", "judged", "(LPitHouse$Block;)I"⟩, 10)]
theorem lw_r1 : ∀ q ∈ lw_privs_1, lw_okq q := List.forall_mem_cons.mpr ⟨lw_p0, List.forall_mem_cons.mpr ⟨lw_p1, List.forall_mem_cons.mpr ⟨lw_p2, List.forall_mem_cons.mpr ⟨lw_p3, List.forall_mem_cons.mpr ⟨lw_p4, List.forall_mem_cons.mpr ⟨lw_p5, List.forall_mem_cons.mpr ⟨lw_p6, List.forall_mem_cons.mpr ⟨lw_p7, List.forall_mem_cons.mpr ⟨lw_p8, List.forall_mem_cons.mpr ⟨lw_p9, List.forall_mem_cons.mpr ⟨lw_p10, List.forall_mem_cons.mpr ⟨lw_p11, List.forall_mem_cons.mpr ⟨lw_p12, List.forall_mem_cons.mpr ⟨lw_p13, List.forall_mem_cons.mpr ⟨lw_p14, List.forall_mem_cons.mpr ⟨lw_p15, fun _ h => absurd h List.not_mem_nil⟩⟩⟩⟩⟩⟩⟩⟩⟩⟩⟩⟩⟩⟩⟩⟩
theorem lw_p16 : lw_okq (⟨"PitHouse$Marks", "isJoined", "(II)Z"⟩, 4) := ⟨⟨by decide +kernel, by decide +kernel⟩, List.mem_of_getElem? (i := 105) (by decide +kernel), List.mem_of_getElem? (i := 603) (by decide +kernel), List.mem_of_getElem? (i := 604) (by decide +kernel)⟩
theorem lw_p17 : lw_okq (⟨"PitHouse$Marks", "dsvBehind", "(I)I"⟩, 4) := ⟨⟨by decide +kernel, by decide +kernel⟩, List.mem_of_getElem? (i := 105) (by decide +kernel), List.mem_of_getElem? (i := 607) (by decide +kernel), List.mem_of_getElem? (i := 608) (by decide +kernel)⟩
theorem lw_p18 : lw_okq (⟨"PitHouse$Marks", "putBits", "(I)V"⟩, 4) := ⟨⟨by decide +kernel, by decide +kernel⟩, List.mem_of_getElem? (i := 105) (by decide +kernel), List.mem_of_getElem? (i := 614) (by decide +kernel), List.mem_of_getElem? (i := 615) (by decide +kernel)⟩
theorem lw_p19 : lw_okq (⟨"PitHouse", "hasOpenTrack", "()Z"⟩, 10) := ⟨⟨by decide +kernel, by decide +kernel⟩, List.mem_of_getElem? (i := 29) (by decide +kernel), List.mem_of_getElem? (i := 648) (by decide +kernel), List.mem_of_getElem? (i := 649) (by decide +kernel)⟩
theorem lw_p20 : lw_okq (⟨"PitHouse", "sampleBetween", "(LPitHouse$Track;II)F"⟩, 10) := ⟨⟨by decide +kernel, by decide +kernel⟩, List.mem_of_getElem? (i := 29) (by decide +kernel), List.mem_of_getElem? (i := 800) (by decide +kernel), List.mem_of_getElem? (i := 801) (by decide +kernel)⟩
theorem lw_p21 : lw_okq (⟨"PitHouseModel", "start", "(ZI)Z"⟩, 15) := ⟨⟨by decide +kernel, by decide +kernel⟩, List.mem_of_getElem? (i := 836) (by decide +kernel), List.mem_of_getElem? (i := 926) (by decide +kernel), List.mem_of_getElem? (i := 927) (by decide +kernel)⟩
theorem lw_p22 : lw_okq (⟨"PitHouseModel", "refuse", "(ZI)Z"⟩, 15) := ⟨⟨by decide +kernel, by decide +kernel⟩, List.mem_of_getElem? (i := 836) (by decide +kernel), List.mem_of_getElem? (i := 930) (by decide +kernel), List.mem_of_getElem? (i := 931) (by decide +kernel)⟩
theorem lw_p23 : lw_okq (⟨"java/util/ArrayList", "add", "(Ljava/lang/Object;[Ljava/lang/Object;I)V"⟩, 3) := ⟨⟨by decide +kernel, by decide +kernel⟩, List.mem_of_getElem? (i := 843) (by decide +kernel), List.mem_of_getElem? (i := 949) (by decide +kernel), List.mem_of_getElem? (i := 950) (by decide +kernel)⟩
theorem lw_p24 : lw_okq (⟨"java/util/ArrayList", "grow", "()[Ljava/lang/Object;"⟩, 3) := ⟨⟨by decide +kernel, by decide +kernel⟩, List.mem_of_getElem? (i := 843) (by decide +kernel), List.mem_of_getElem? (i := 953) (by decide +kernel), List.mem_of_getElem? (i := 954) (by decide +kernel)⟩
theorem lw_p25 : lw_okq (⟨"java/util/ArrayList", "grow", "(I)[Ljava/lang/Object;"⟩, 3) := ⟨⟨by decide +kernel, by decide +kernel⟩, List.mem_of_getElem? (i := 843) (by decide +kernel), List.mem_of_getElem? (i := 957) (by decide +kernel), List.mem_of_getElem? (i := 958) (by decide +kernel)⟩
theorem lw_p26 : lw_okq (⟨"PitHouseModel", "isNoTrack", "(I)Z"⟩, 15) := ⟨⟨by decide +kernel, by decide +kernel⟩, List.mem_of_getElem? (i := 836) (by decide +kernel), List.mem_of_getElem? (i := 1006) (by decide +kernel), List.mem_of_getElem? (i := 1007) (by decide +kernel)⟩
theorem lw_p27 : lw_okq (⟨"PitHouseModel", "isDone", "(I)Z"⟩, 15) := ⟨⟨by decide +kernel, by decide +kernel⟩, List.mem_of_getElem? (i := 836) (by decide +kernel), List.mem_of_getElem? (i := 1011) (by decide +kernel), List.mem_of_getElem? (i := 1012) (by decide +kernel)⟩
theorem lw_p28 : lw_okq (⟨"PitHouseModel", "isNoFile", "(I)Z"⟩, 15) := ⟨⟨by decide +kernel, by decide +kernel⟩, List.mem_of_getElem? (i := 836) (by decide +kernel), List.mem_of_getElem? (i := 1104) (by decide +kernel), List.mem_of_getElem? (i := 1105) (by decide +kernel)⟩
theorem lw_p29 : lw_okq (⟨"PitHouseModel", "worth", "(I)I"⟩, 15) := ⟨⟨by decide +kernel, by decide +kernel⟩, List.mem_of_getElem? (i := 836) (by decide +kernel), List.mem_of_getElem? (i := 1155) (by decide +kernel), List.mem_of_getElem? (i := 1156) (by decide +kernel)⟩
theorem lw_p30 : lw_okq (⟨"PitHouseModel", "worth", "(I[I)I"⟩, 15) := ⟨⟨by decide +kernel, by decide +kernel⟩, List.mem_of_getElem? (i := 836) (by decide +kernel), List.mem_of_getElem? (i := 1159) (by decide +kernel), List.mem_of_getElem? (i := 1160) (by decide +kernel)⟩
theorem lw_p31 : lw_okq (⟨"PitHouseModel", "toldOfSector", "(II)I"⟩, 15) := ⟨⟨by decide +kernel, by decide +kernel⟩, List.mem_of_getElem? (i := 836) (by decide +kernel), List.mem_of_getElem? (i := 1197) (by decide +kernel), List.mem_of_getElem? (i := 1198) (by decide +kernel)⟩
def lw_privs_2 : List (MethodName × Nat) := [(⟨"PitHouse$Marks", "isJoined", "(II)Z"⟩, 4), (⟨"PitHouse$Marks", "dsvBehind", "(I)I"⟩, 4), (⟨"PitHouse$Marks", "putBits", "(I)V"⟩, 4), (⟨"PitHouse", "hasOpenTrack", "()Z"⟩, 10), (⟨"PitHouse", "sampleBetween", "(LPitHouse$Track;II)F"⟩, 10), (⟨"PitHouseModel", "start", "(ZI)Z"⟩, 15), (⟨"PitHouseModel", "refuse", "(ZI)Z"⟩, 15), (⟨"java/util/ArrayList", "add", "(Ljava/lang/Object;[Ljava/lang/Object;I)V"⟩, 3), (⟨"java/util/ArrayList", "grow", "()[Ljava/lang/Object;"⟩, 3), (⟨"java/util/ArrayList", "grow", "(I)[Ljava/lang/Object;"⟩, 3), (⟨"PitHouseModel", "isNoTrack", "(I)Z"⟩, 15), (⟨"PitHouseModel", "isDone", "(I)Z"⟩, 15), (⟨"PitHouseModel", "isNoFile", "(I)Z"⟩, 15), (⟨"PitHouseModel", "worth", "(I)I"⟩, 15), (⟨"PitHouseModel", "worth", "(I[I)I"⟩, 15), (⟨"PitHouseModel", "toldOfSector", "(II)I"⟩, 15)]
theorem lw_r2 : ∀ q ∈ lw_privs_2, lw_okq q := List.forall_mem_cons.mpr ⟨lw_p16, List.forall_mem_cons.mpr ⟨lw_p17, List.forall_mem_cons.mpr ⟨lw_p18, List.forall_mem_cons.mpr ⟨lw_p19, List.forall_mem_cons.mpr ⟨lw_p20, List.forall_mem_cons.mpr ⟨lw_p21, List.forall_mem_cons.mpr ⟨lw_p22, List.forall_mem_cons.mpr ⟨lw_p23, List.forall_mem_cons.mpr ⟨lw_p24, List.forall_mem_cons.mpr ⟨lw_p25, List.forall_mem_cons.mpr ⟨lw_p26, List.forall_mem_cons.mpr ⟨lw_p27, List.forall_mem_cons.mpr ⟨lw_p28, List.forall_mem_cons.mpr ⟨lw_p29, List.forall_mem_cons.mpr ⟨lw_p30, List.forall_mem_cons.mpr ⟨lw_p31, fun _ h => absurd h List.not_mem_nil⟩⟩⟩⟩⟩⟩⟩⟩⟩⟩⟩⟩⟩⟩⟩⟩
theorem lw_p32 : lw_okq (⟨"PitHouseModel", "nibblesAt", "(IZ)J"⟩, 15) := ⟨⟨by decide +kernel, by decide +kernel⟩, List.mem_of_getElem? (i := 836) (by decide +kernel), List.mem_of_getElem? (i := 1219) (by decide +kernel), List.mem_of_getElem? (i := 1220) (by decide +kernel)⟩
theorem lw_p33 : lw_okq (⟨"PitHouseModel", "toldOfTrack", "(II)I"⟩, 15) := ⟨⟨by decide +kernel, by decide +kernel⟩, List.mem_of_getElem? (i := 836) (by decide +kernel), List.mem_of_getElem? (i := 1232) (by decide +kernel), List.mem_of_getElem? (i := 1233) (by decide +kernel)⟩
theorem lw_p34 : lw_okq (⟨"PitHouseModel", "isGood", "(I)Z"⟩, 15) := ⟨⟨by decide +kernel, by decide +kernel⟩, List.mem_of_getElem? (i := 836) (by decide +kernel), List.mem_of_getElem? (i := 1236) (by decide +kernel), List.mem_of_getElem? (i := 1237) (by decide +kernel)⟩
theorem lw_p35 : lw_okq (⟨"PitHouseModel", "toldOfFile", "(III)I"⟩, 15) := ⟨⟨by decide +kernel, by decide +kernel⟩, List.mem_of_getElem? (i := 836) (by decide +kernel), List.mem_of_getElem? (i := 1244) (by decide +kernel), List.mem_of_getElem? (i := 1245) (by decide +kernel)⟩
theorem lw_p36 : lw_okq (⟨"PitHouseModel", "sample", "(I)F"⟩, 15) := ⟨⟨by decide +kernel, by decide +kernel⟩, List.mem_of_getElem? (i := 836) (by decide +kernel), List.mem_of_getElem? (i := 1252) (by decide +kernel), List.mem_of_getElem? (i := 1253) (by decide +kernel)⟩
theorem lw_p37 : lw_okq (⟨"PitHouseModel", "isHeard", "(II)Z"⟩, 15) := ⟨⟨by decide +kernel, by decide +kernel⟩, List.mem_of_getElem? (i := 836) (by decide +kernel), List.mem_of_getElem? (i := 1256) (by decide +kernel), List.mem_of_getElem? (i := 1257) (by decide +kernel)⟩
theorem lw_p38 : lw_okq (⟨"PitHouseModel", "told", "(I)I"⟩, 15) := ⟨⟨by decide +kernel, by decide +kernel⟩, List.mem_of_getElem? (i := 836) (by decide +kernel), List.mem_of_getElem? (i := 1266) (by decide +kernel), List.mem_of_getElem? (i := 1267) (by decide +kernel)⟩
def lw_privs_3 : List (MethodName × Nat) := [(⟨"PitHouseModel", "nibblesAt", "(IZ)J"⟩, 15), (⟨"PitHouseModel", "toldOfTrack", "(II)I"⟩, 15), (⟨"PitHouseModel", "isGood", "(I)Z"⟩, 15), (⟨"PitHouseModel", "toldOfFile", "(III)I"⟩, 15), (⟨"PitHouseModel", "sample", "(I)F"⟩, 15), (⟨"PitHouseModel", "isHeard", "(II)Z"⟩, 15), (⟨"PitHouseModel", "told", "(I)I"⟩, 15)]
theorem lw_r3 : ∀ q ∈ lw_privs_3, lw_okq q := List.forall_mem_cons.mpr ⟨lw_p32, List.forall_mem_cons.mpr ⟨lw_p33, List.forall_mem_cons.mpr ⟨lw_p34, List.forall_mem_cons.mpr ⟨lw_p35, List.forall_mem_cons.mpr ⟨lw_p36, List.forall_mem_cons.mpr ⟨lw_p37, List.forall_mem_cons.mpr ⟨lw_p38, fun _ h => absurd h List.not_mem_nil⟩⟩⟩⟩⟩⟩⟩
def lw_privs : List (MethodName × Nat) := lw_privs_1 ++ (lw_privs_2 ++ (lw_privs_3))
def lw_tbl : List Cond := k2_sels lw_privs ++ tables_1
theorem lw_privs_ok : ∀ q ∈ lw_privs, lw_okq q := by
  show ∀ q ∈ lw_privs_1 ++ (lw_privs_2 ++ (lw_privs_3)), lw_okq q
  exact List.forall_mem_append.mpr ⟨lw_r1, List.forall_mem_append.mpr ⟨lw_r2, lw_r3⟩⟩
/-- the streams that the claim lets the run draw from -/
abbrev lw_cs : List Choice := [Jvm.Choice.named "NaN.bits"]
theorem lw_bits : nanBits ∈ lw_cs := by first | decide | exact List.mem_cons_self | simp [lw_cs, nanBits]

def RX0 : String := "PitHouse$Bench"
def TX0 : u_T := fun k => match k with
  | 0 => ("PitHouse$Bench", "copy", "LPitHouse$Block;", true)
  | _ => ("PitHouse$Bench", "marks", "LPitHouse$Marks;", true)
def tyX0 : Nat → FieldType := fun k => match k with
  | 0 => .object "PitHouse$Block"
  | _ => .object "PitHouse$Marks"
abbrev wsX00 : List Cond := u_ws RX0 TX0 2
theorem nmX0 : ∀ a, a < 2 → ∀ b, b < 2 → a ≠ b → (TX0 a).2.1 ≠ (TX0 b).2.1 := by decide +kernel
theorem tyX0_ok : ∀ k, k < 2 → parseFieldDescriptor (TX0 k).2.2.1 = some (tyX0 k) := by decide +kernel
abbrev cX0_init : ByteArray := prog_2_method_1_code
def yX0_init : MethodName := ⟨RX0, "<init>", "()V"⟩
def RX1 : String := "PitHouse$Block"
def TX1 : u_T := fun k => match k with
  | 0 => ("PitHouse$Block", "values", "J", false)
  | _ => ("PitHouse$Block", "erased", "I", false)
def tyX1 : Nat → FieldType := fun k => match k with
  | 0 => .long
  | _ => .int
abbrev wsX10 : List Cond := u_ws RX1 TX1 2
theorem nmX1 : ∀ a, a < 2 → ∀ b, b < 2 → a ≠ b → (TX1 a).2.1 ≠ (TX1 b).2.1 := by decide +kernel
theorem tyX1_ok : ∀ k, k < 2 → parseFieldDescriptor (TX1 k).2.2.1 = some (tyX1 k) := by decide +kernel
abbrev cX1_init : ByteArray := prog_3_method_1_code
def yX1_init : MethodName := ⟨RX1, "<init>", "()V"⟩
abbrev cX1_valueAt : ByteArray := prog_3_method_2_code
def yX1_valueAt : MethodName := ⟨RX1, "valueAt", "(I)I"⟩
abbrev cX1_isErased : ByteArray := prog_3_method_3_code
def yX1_isErased : MethodName := ⟨RX1, "isErased", "(I)Z"⟩
abbrev cX1_put : ByteArray := prog_3_method_4_code
def yX1_put : MethodName := ⟨RX1, "put", "(II)V"⟩
abbrev cX1_erase : ByteArray := prog_3_method_5_code
def yX1_erase : MethodName := ⟨RX1, "erase", "(I)V"⟩
abbrev cX1_copyFrom : ByteArray := prog_3_method_6_code
def yX1_copyFrom : MethodName := ⟨RX1, "copyFrom", "(LPitHouse$Block;)V"⟩
abbrev cX1_spread : ByteArray := prog_3_method_7_code
def yX1_spread : MethodName := ⟨RX1, "spread", "(J)V"⟩
abbrev cX1_gathered : ByteArray := prog_3_method_8_code
def yX1_gathered : MethodName := ⟨RX1, "gathered", "()J"⟩
abbrev cX1_mend : ByteArray := prog_3_method_9_code
def yX1_mend : MethodName := ⟨RX1, "mend", "()V"⟩
abbrev cX1_isEven : ByteArray := prog_3_method_10_code
def yX1_isEven : MethodName := ⟨RX1, "isEven", "()Z"⟩
abbrev cX1_fillErased : ByteArray := prog_3_method_11_code
def yX1_fillErased : MethodName := ⟨RX1, "fillErased", "()V"⟩
abbrev cX1_onlyOddOf : ByteArray := prog_3_method_12_code
def yX1_onlyOddOf : MethodName := ⟨RX1, "onlyOddOf", "(I)I"⟩
abbrev cX1_parityOf : ByteArray := prog_3_method_13_code
def yX1_parityOf : MethodName := ⟨RX1, "parityOf", "(I)I"⟩
abbrev cX1_placeOf : ByteArray := prog_3_method_14_code
def yX1_placeOf : MethodName := ⟨RX1, "placeOf", "(I)I"⟩
def RX2 : String := "PitHouse$Drive"
def TX2 : u_T := fun k => match k with
  | 0 => ("PitHouse$Drive", "head", "I", false)
  | 1 => ("PitHouse$Drive", "clock", "D", false)
  | 2 => ("PitHouse$Drive", "reads", "I", false)
  | 3 => ("PitHouse$Drive", "isTrayOpen", "Z", false)
  | _ => ("PitHouse$Drive", "refusals", "I", false)
def tyX2 : Nat → FieldType := fun k => match k with
  | 0 => .int
  | 1 => .double
  | 2 => .int
  | 3 => .boolean
  | _ => .int
abbrev wsX20 : List Cond := u_ws RX2 TX2 5
theorem nmX2 : ∀ a, a < 5 → ∀ b, b < 5 → a ≠ b → (TX2 a).2.1 ≠ (TX2 b).2.1 := by decide +kernel
theorem tyX2_ok : ∀ k, k < 5 → parseFieldDescriptor (TX2 k).2.2.1 = some (tyX2 k) := by decide +kernel
abbrev cX2_init : ByteArray := prog_4_method_1_code
def yX2_init : MethodName := ⟨RX2, "<init>", "()V"⟩
abbrev cX2_seekTime : ByteArray := prog_4_method_2_code
def yX2_seekTime : MethodName := ⟨RX2, "seekTime", "(II)D"⟩
abbrev cX2_restOfTurn : ByteArray := prog_4_method_3_code
def yX2_restOfTurn : MethodName := ⟨RX2, "restOfTurn", "(D)D"⟩
abbrev cX2_clockBehind : ByteArray := prog_4_method_4_code
def yX2_clockBehind : MethodName := ⟨RX2, "clockBehind", "(DII)D"⟩
abbrev cX2_headBehind : ByteArray := prog_4_method_5_code
def yX2_headBehind : MethodName := ⟨RX2, "headBehind", "(I)I"⟩
abbrev cX2_passOver : ByteArray := prog_4_method_6_code
def yX2_passOver : MethodName := ⟨RX2, "passOver", "(I)V"⟩
abbrev cX2_timeOver : ByteArray := prog_4_method_7_code
def yX2_timeOver : MethodName := ⟨RX2, "timeOver", "(II)D"⟩
def RX3 : String := "PitHouse$FileTable"
def TX3 : u_T := fun k => match k with
  | 0 => ("PitHouse$FileTable", "firsts", "[[I", true)
  | _ => ("PitHouse$FileTable", "lengths", "[[I", true)
def tyX3 : Nat → FieldType := fun k => match k with
  | 0 => .array (.array .int)
  | _ => .array (.array .int)
abbrev wsX30 : List Cond := u_ws RX3 TX3 2
theorem nmX3 : ∀ a, a < 2 → ∀ b, b < 2 → a ≠ b → (TX3 a).2.1 ≠ (TX3 b).2.1 := by decide +kernel
theorem tyX3_ok : ∀ k, k < 2 → parseFieldDescriptor (TX3 k).2.2.1 = some (tyX3 k) := by decide +kernel
abbrev cX3_init : ByteArray := prog_5_method_1_code
def yX3_init : MethodName := ⟨RX3, "<init>", "()V"⟩
abbrev cX3_tell : ByteArray := prog_5_method_2_code
def yX3_tell : MethodName := ⟨RX3, "tell", "(IIII)V"⟩
abbrev cX3_tellerOf : ByteArray := prog_5_method_3_code
def yX3_tellerOf : MethodName := ⟨RX3, "tellerOf", "(II)I"⟩
abbrev cX3_firstOf : ByteArray := prog_5_method_4_code
def yX3_firstOf : MethodName := ⟨RX3, "firstOf", "(II)I"⟩
abbrev cX3_lengthOf : ByteArray := prog_5_method_5_code
def yX3_lengthOf : MethodName := ⟨RX3, "lengthOf", "(II)I"⟩
def RX4 : String := "PitHouse$Marks"
def TX4 : u_T := fun k => match k with
  | 0 => ("PitHouse$Marks", "level", "I", false)
  | 1 => ("PitHouse$Marks", "dsv", "I", false)
  | 2 => ("PitHouse$Marks", "turns", "I", false)
  | _ => ("PitHouse$Marks", "farthest", "I", false)
def tyX4 : Nat → FieldType := fun k => match k with
  | 0 => .int
  | 1 => .int
  | 2 => .int
  | _ => .int
abbrev wsX40 : List Cond := u_ws RX4 TX4 4
theorem nmX4 : ∀ a, a < 4 → ∀ b, b < 4 → a ≠ b → (TX4 a).2.1 ≠ (TX4 b).2.1 := by decide +kernel
theorem tyX4_ok : ∀ k, k < 4 → parseFieldDescriptor (TX4 k).2.2.1 = some (tyX4 k) := by decide +kernel
abbrev cX4_init : ByteArray := prog_6_method_1_code
def yX4_init : MethodName := ⟨RX4, "<init>", "()V"⟩
abbrev cX4_mark : ByteArray := prog_6_method_2_code
def yX4_mark : MethodName := ⟨RX4, "mark", "(LPitHouse$Block;)V"⟩
abbrev cX4_isJoined : ByteArray := prog_6_method_3_code
def yX4_isJoined : MethodName := ⟨RX4, "isJoined", "(II)Z"⟩
abbrev cX4_dsvBehind : ByteArray := prog_6_method_4_code
def yX4_dsvBehind : MethodName := ⟨RX4, "dsvBehind", "(I)I"⟩
abbrev cX4_putBits : ByteArray := prog_6_method_5_code
def yX4_putBits : MethodName := ⟨RX4, "putBits", "(I)V"⟩
def RX5 : String := "PitHouse$Sector"
def TX5 : u_T := fun k => match k with
  | 0 => ("PitHouse$Sector", "number", "I", true)
  | 1 => ("PitHouse$Sector", "block", "LPitHouse$Block;", true)
  | 2 => ("PitHouse$Sector", "isWritten", "Z", false)
  | 3 => ("PitHouse$Sector", "isData", "Z", false)
  | 4 => ("PitHouse$Sector", "sum", "I", false)
  | 5 => ("PitHouse$Sector", "state", "I", false)
  | 6 => ("PitHouse$Sector", "mended", "J", false)
  | 7 => ("PitHouse$Sector", "turns", "I", false)
  | 8 => ("PitHouse$Sector", "dsv", "I", false)
  | _ => ("PitHouse$Sector", "farthest", "I", false)
def tyX5 : Nat → FieldType := fun k => match k with
  | 0 => .int
  | 1 => .object "PitHouse$Block"
  | 2 => .boolean
  | 3 => .boolean
  | 4 => .int
  | 5 => .int
  | 6 => .long
  | 7 => .int
  | 8 => .int
  | _ => .int
abbrev wsX50 : List Cond := u_ws RX5 TX5 10
theorem nmX5 : ∀ a, a < 10 → ∀ b, b < 10 → a ≠ b → (TX5 a).2.1 ≠ (TX5 b).2.1 := by decide +kernel
theorem tyX5_ok : ∀ k, k < 10 → parseFieldDescriptor (TX5 k).2.2.1 = some (tyX5 k) := by decide +kernel
abbrev cX5_init : ByteArray := prog_7_method_1_code
def yX5_init : MethodName := ⟨RX5, "<init>", "(I)V"⟩
abbrev cX5_fillWith : ByteArray := prog_7_method_2_code
def yX5_fillWith : MethodName := ⟨RX5, "fillWith", "(JZLPitHouse$Bench;)V"⟩
abbrev cX5_eraseColumn : ByteArray := prog_7_method_3_code
def yX5_eraseColumn : MethodName := ⟨RX5, "eraseColumn", "(IILPitHouse$Bench;)V"⟩
abbrev cX5_makeWrong : ByteArray := prog_7_method_4_code
def yX5_makeWrong : MethodName := ⟨RX5, "makeWrong", "(IILPitHouse$Bench;)Z"⟩
abbrev cX5_raw : ByteArray := prog_7_method_5_code
def yX5_raw : MethodName := ⟨RX5, "raw", "()J"⟩
abbrev cX5_sample : ByteArray := prog_7_method_6_code
def yX5_sample : MethodName := ⟨RX5, "sample", "()F"⟩
abbrev cX5_stateWithout : ByteArray := prog_7_method_7_code
def yX5_stateWithout : MethodName := ⟨RX5, "stateWithout", "(ILPitHouse$Block;)I"⟩
abbrev cX5_reckon : ByteArray := prog_7_method_8_code
def yX5_reckon : MethodName := ⟨RX5, "reckon", "(LPitHouse$Bench;)V"⟩
abbrev cX5_judged : ByteArray := prog_7_method_9_code
def yX5_judged : MethodName := ⟨RX5, "judged", "(LPitHouse$Block;)I"⟩
abbrev cX5_mixed : ByteArray := prog_7_method_10_code
def yX5_mixed : MethodName := ⟨RX5, "mixed", "(J)J"⟩
abbrev cX5_sumOf : ByteArray := prog_7_method_11_code
def yX5_sumOf : MethodName := ⟨RX5, "sumOf", "(J)I"⟩
abbrev cX5_nibbleOf : ByteArray := prog_7_method_12_code
def yX5_nibbleOf : MethodName := ⟨RX5, "nibbleOf", "(JI)I"⟩
def RX6 : String := "PitHouse$Spiral"
def TX6 : u_T := fun k => match k with
  | _ => ("", "", "", false)
def tyX6 : Nat → FieldType := fun k => match k with
  | _ => .int
abbrev wsX60 : List Cond := u_ws RX6 TX6 0
theorem nmX6 : ∀ a, a < 0 → ∀ b, b < 0 → a ≠ b → (TX6 a).2.1 ≠ (TX6 b).2.1 := by decide +kernel
theorem tyX6_ok : ∀ k, k < 0 → parseFieldDescriptor (TX6 k).2.2.1 = some (tyX6 k) := by decide +kernel
abbrev cX6_zoneOf : ByteArray := prog_8_method_2_code
def yX6_zoneOf : MethodName := ⟨RX6, "zoneOf", "(I)I"⟩
abbrev cX6_turnOf : ByteArray := prog_8_method_3_code
def yX6_turnOf : MethodName := ⟨RX6, "turnOf", "(I)I"⟩
abbrev cX6_angleOf : ByteArray := prog_8_method_4_code
def yX6_angleOf : MethodName := ⟨RX6, "angleOf", "(I)D"⟩
abbrev cX6_speedOf : ByteArray := prog_8_method_5_code
def yX6_speedOf : MethodName := ⟨RX6, "speedOf", "(I)F"⟩
abbrev cX6_positionOf : ByteArray := prog_8_method_6_code
def yX6_positionOf : MethodName := ⟨RX6, "positionOf", "(I)I"⟩
def RX7 : String := "PitHouse$Track"
def TX7 : u_T := fun k => match k with
  | 0 => ("PitHouse$Track", "session", "I", false)
  | 1 => ("PitHouse$Track", "mode", "I", false)
  | 2 => ("PitHouse$Track", "first", "I", false)
  | 3 => ("PitHouse$Track", "has", "I", false)
  | 4 => ("PitHouse$Track", "used", "I", false)
  | 5 => ("PitHouse$Track", "links", "I", false)
  | _ => ("PitHouse$Track", "isClosed", "Z", false)
def tyX7 : Nat → FieldType := fun k => match k with
  | 0 => .int
  | 1 => .int
  | 2 => .int
  | 3 => .int
  | 4 => .int
  | 5 => .int
  | _ => .boolean
abbrev wsX70 : List Cond := u_ws RX7 TX7 7
theorem nmX7 : ∀ a, a < 7 → ∀ b, b < 7 → a ≠ b → (TX7 a).2.1 ≠ (TX7 b).2.1 := by decide +kernel
theorem tyX7_ok : ∀ k, k < 7 → parseFieldDescriptor (TX7 k).2.2.1 = some (tyX7 k) := by decide +kernel
abbrev cX7_init : ByteArray := prog_9_method_1_code
def yX7_init : MethodName := ⟨RX7, "<init>", "()V"⟩
abbrev cX7_reserve : ByteArray := prog_9_method_2_code
def yX7_reserve : MethodName := ⟨RX7, "reserve", "(IIII)V"⟩
abbrev cX7_behind : ByteArray := prog_9_method_3_code
def yX7_behind : MethodName := ⟨RX7, "behind", "()I"⟩
abbrev cX7_holds : ByteArray := prog_9_method_4_code
def yX7_holds : MethodName := ⟨RX7, "holds", "(I)Z"⟩
abbrev cX7_hasRoom : ByteArray := prog_9_method_5_code
def yX7_hasRoom : MethodName := ⟨RX7, "hasRoom", "()Z"⟩
abbrev cX7_takeNext : ByteArray := prog_9_method_6_code
def yX7_takeNext : MethodName := ⟨RX7, "takeNext", "()I"⟩
abbrev cX7_giveBack : ByteArray := prog_9_method_7_code
def yX7_giveBack : MethodName := ⟨RX7, "giveBack", "()I"⟩
def RX8 : String := "PitHouse"
def TX8 : u_T := fun k => match k with
  | 0 => ("PitHouse", "sectors", "[LPitHouse$Sector;", true)
  | 1 => ("PitHouse", "tracks", "[LPitHouse$Track;", true)
  | 2 => ("PitHouse", "files", "LPitHouse$FileTable;", true)
  | 3 => ("PitHouse", "drive", "LPitHouse$Drive;", true)
  | 4 => ("PitHouse", "bench", "LPitHouse$Bench;", true)
  | 5 => ("PitHouse", "sessionCount", "I", false)
  | 6 => ("PitHouse", "trackCount", "I", false)
  | 7 => ("PitHouse", "next", "I", false)
  | 8 => ("PitHouse", "calibrations", "I", false)
  | _ => ("PitHouse", "isSessionOpen", "Z", false)
def tyX8 : Nat → FieldType := fun k => match k with
  | 0 => .array (.object "PitHouse$Sector")
  | 1 => .array (.object "PitHouse$Track")
  | 2 => .object "PitHouse$FileTable"
  | 3 => .object "PitHouse$Drive"
  | 4 => .object "PitHouse$Bench"
  | 5 => .int
  | 6 => .int
  | 7 => .int
  | 8 => .int
  | _ => .boolean
abbrev wsX80 : List Cond := u_ws RX8 TX8 10
theorem nmX8 : ∀ a, a < 10 → ∀ b, b < 10 → a ≠ b → (TX8 a).2.1 ≠ (TX8 b).2.1 := by decide +kernel
theorem tyX8_ok : ∀ k, k < 10 → parseFieldDescriptor (TX8 k).2.2.1 = some (tyX8 k) := by decide +kernel
abbrev cX8_init : ByteArray := prog_1_method_1_code
def yX8_init : MethodName := ⟨RX8, "<init>", "()V"⟩
abbrev cX8_session : ByteArray := prog_1_method_2_code
def yX8_session : MethodName := ⟨RX8, "session", "()I"⟩
abbrev cX8_track : ByteArray := prog_1_method_3_code
def yX8_track : MethodName := ⟨RX8, "track", "(II)I"⟩
abbrev cX8_write : ByteArray := prog_1_method_4_code
def yX8_write : MethodName := ⟨RX8, "write", "(IJ)I"⟩
abbrev cX8_starve : ByteArray := prog_1_method_5_code
def yX8_starve : MethodName := ⟨RX8, "starve", "(I)I"⟩
abbrev cX8_close : ByteArray := prog_1_method_6_code
def yX8_close : MethodName := ⟨RX8, "close", "(I)I"⟩
abbrev cX8_end : ByteArray := prog_1_method_7_code
def yX8_end : MethodName := ⟨RX8, "end", "()I"⟩
abbrev cX8_file : ByteArray := prog_1_method_8_code
def yX8_file : MethodName := ⟨RX8, "file", "(III)I"⟩
abbrev cX8_scratch : ByteArray := prog_1_method_9_code
def yX8_scratch : MethodName := ⟨RX8, "scratch", "(IIII)I"⟩
abbrev cX8_rot : ByteArray := prog_1_method_10_code
def yX8_rot : MethodName := ⟨RX8, "rot", "(I)I"⟩
abbrev cX8_tray : ByteArray := prog_1_method_11_code
def yX8_tray : MethodName := ⟨RX8, "tray", "(Z)Z"⟩
abbrev cX8_push : ByteArray := prog_1_method_12_code
def yX8_push : MethodName := ⟨RX8, "push", "()I"⟩
abbrev cX8_read : ByteArray := prog_1_method_13_code
def yX8_read : MethodName := ⟨RX8, "read", "(I)I"⟩
abbrev cX8_seek : ByteArray := prog_1_method_14_code
def yX8_seek : MethodName := ⟨RX8, "seek", "(I)D"⟩
abbrev cX8_clock : ByteArray := prog_1_method_15_code
def yX8_clock : MethodName := ⟨RX8, "clock", "()D"⟩
abbrev cX8_angle : ByteArray := prog_1_method_16_code
def yX8_angle : MethodName := ⟨RX8, "angle", "(I)D"⟩
abbrev cX8_ofSector : ByteArray := prog_1_method_17_code
def yX8_ofSector : MethodName := ⟨RX8, "ofSector", "(II)I"⟩
abbrev cX8_nibbles : ByteArray := prog_1_method_18_code
def yX8_nibbles : MethodName := ⟨RX8, "nibbles", "(IZ)J"⟩
abbrev cX8_place : ByteArray := prog_1_method_19_code
def yX8_place : MethodName := ⟨RX8, "place", "(II)I"⟩
abbrev cX8_ofTrack : ByteArray := prog_1_method_20_code
def yX8_ofTrack : MethodName := ⟨RX8, "ofTrack", "(II)I"⟩
abbrev cX8_ofFile : ByteArray := prog_1_method_21_code
def yX8_ofFile : MethodName := ⟨RX8, "ofFile", "(III)I"⟩
abbrev cX8_play : ByteArray := prog_1_method_22_code
def yX8_play : MethodName := ⟨RX8, "play", "(I)D"⟩
abbrev cX8_many : ByteArray := prog_1_method_23_code
def yX8_many : MethodName := ⟨RX8, "many", "(I)I"⟩
abbrev cX8_wouldTake : ByteArray := prog_1_method_24_code
def yX8_wouldTake : MethodName := ⟨RX8, "wouldTake", "(II)D"⟩
abbrev cX8_wouldMend : ByteArray := prog_1_method_25_code
def yX8_wouldMend : MethodName := ⟨RX8, "wouldMend", "(II)I"⟩
abbrev cX8_digest : ByteArray := prog_1_method_26_code
def yX8_digest : MethodName := ⟨RX8, "digest", "()J"⟩
abbrev cX8_digestTracks : ByteArray := prog_1_method_27_code
def yX8_digestTracks : MethodName := ⟨RX8, "digestTracks", "(J)J"⟩
abbrev cX8_digestSectors : ByteArray := prog_1_method_28_code
def yX8_digestSectors : MethodName := ⟨RX8, "digestSectors", "(J)J"⟩
abbrev cX8_digestFiles : ByteArray := prog_1_method_29_code
def yX8_digestFiles : MethodName := ⟨RX8, "digestFiles", "(J)J"⟩
abbrev cX8_isSector : ByteArray := prog_1_method_30_code
def yX8_isSector : MethodName := ⟨RX8, "isSector", "(I)Z"⟩
abbrev cX8_checkSector : ByteArray := prog_1_method_31_code
def yX8_checkSector : MethodName := ⟨RX8, "checkSector", "(I)V"⟩
abbrev cX8_checkFile : ByteArray := prog_1_method_32_code
def yX8_checkFile : MethodName := ⟨RX8, "checkFile", "(I)V"⟩
abbrev cX8_trackAt : ByteArray := prog_1_method_33_code
def yX8_trackAt : MethodName := ⟨RX8, "trackAt", "(I)LPitHouse$Track;"⟩
abbrev cX8_left : ByteArray := prog_1_method_34_code
def yX8_left : MethodName := ⟨RX8, "left", "()I"⟩
abbrev cX8_trackOf : ByteArray := prog_1_method_35_code
def yX8_trackOf : MethodName := ⟨RX8, "trackOf", "(I)I"⟩
abbrev cX8_hasOpenTrack : ByteArray := prog_1_method_36_code
def yX8_hasOpenTrack : MethodName := ⟨RX8, "hasOpenTrack", "()Z"⟩
abbrev cX8_isGood : ByteArray := prog_1_method_37_code
def yX8_isGood : MethodName := ⟨RX8, "isGood", "(I)Z"⟩
abbrev cX8_goodFrom : ByteArray := prog_1_method_38_code
def yX8_goodFrom : MethodName := ⟨RX8, "goodFrom", "(II)I"⟩
abbrev cX8_writtenOf : ByteArray := prog_1_method_39_code
def yX8_writtenOf : MethodName := ⟨RX8, "writtenOf", "(I)I"⟩
abbrev cX8_sampleBetween : ByteArray := prog_1_method_40_code
def yX8_sampleBetween : MethodName := ⟨RX8, "sampleBetween", "(LPitHouse$Track;II)F"⟩
def RX9 : String := "PitHouseModel"
def TX9 : u_T := fun k => match k with
  | 0 => ("PitHouseModel", "thrown", "I", false)
  | 1 => ("PitHouseModel", "blocks", "[[I", true)
  | 2 => ("PitHouseModel", "sums", "[I", true)
  | 3 => ("PitHouseModel", "tracks", "Ljava/util/ArrayList;", true)
  | 4 => ("PitHouseModel", "of", "[I", true)
  | 5 => ("PitHouseModel", "sessions", "I", false)
  | 6 => ("PitHouseModel", "isOpen", "Z", false)
  | 7 => ("PitHouseModel", "next", "I", false)
  | 8 => ("PitHouseModel", "calibrations", "I", false)
  | 9 => ("PitHouseModel", "files", "Ljava/util/ArrayList;", true)
  | 10 => ("PitHouseModel", "head", "I", false)
  | 11 => ("PitHouseModel", "clock", "D", false)
  | 12 => ("PitHouseModel", "reads", "I", false)
  | 13 => ("PitHouseModel", "isTray", "Z", false)
  | _ => ("PitHouseModel", "refused", "I", false)
def tyX9 : Nat → FieldType := fun k => match k with
  | 0 => .int
  | 1 => .array (.array .int)
  | 2 => .array .int
  | 3 => .object "java/util/ArrayList"
  | 4 => .array .int
  | 5 => .int
  | 6 => .boolean
  | 7 => .int
  | 8 => .int
  | 9 => .object "java/util/ArrayList"
  | 10 => .int
  | 11 => .double
  | 12 => .int
  | 13 => .boolean
  | _ => .int
abbrev wsX90 : List Cond := u_ws RX9 TX9 15
theorem nmX9 : ∀ a, a < 15 → ∀ b, b < 15 → a ≠ b → (TX9 a).2.1 ≠ (TX9 b).2.1 := by decide +kernel
theorem tyX9_ok : ∀ k, k < 15 → parseFieldDescriptor (TX9 k).2.2.1 = some (tyX9 k) := by decide +kernel
abbrev cX9_init : ByteArray := prog_11_method_1_code
def yX9_init : MethodName := ⟨RX9, "<init>", "()V"⟩
abbrev cX9_thrown : ByteArray := prog_11_method_2_code
def yX9_thrown : MethodName := ⟨RX9, "thrown", "()I"⟩
abbrev cX9_refuse : ByteArray := prog_11_method_3_code
def yX9_refuse : MethodName := ⟨RX9, "refuse", "(ZI)Z"⟩
abbrev cX9_start : ByteArray := prog_11_method_4_code
def yX9_start : MethodName := ⟨RX9, "start", "(ZI)Z"⟩
abbrev cX9_isIn : ByteArray := prog_11_method_5_code
def yX9_isIn : MethodName := ⟨RX9, "isIn", "(III)Z"⟩
abbrev cX9_one : ByteArray := prog_11_method_6_code
def yX9_one : MethodName := ⟨RX9, "one", "(Z)I"⟩
abbrev cX9_isNoTrack : ByteArray := prog_11_method_7_code
def yX9_isNoTrack : MethodName := ⟨RX9, "isNoTrack", "(I)Z"⟩
abbrev cX9_isNoSector : ByteArray := prog_11_method_8_code
def yX9_isNoSector : MethodName := ⟨RX9, "isNoSector", "(I)Z"⟩
abbrev cX9_mask : ByteArray := prog_11_method_9_code
def yX9_mask : MethodName := ⟨RX9, "mask", "(II)I"⟩
abbrev cX9_placeOf : ByteArray := prog_11_method_10_code
def yX9_placeOf : MethodName := ⟨RX9, "placeOf", "(I)I"⟩
abbrev cX9_blockOf : ByteArray := prog_11_method_11_code
def yX9_blockOf : MethodName := ⟨RX9, "blockOf", "(IJ)[I"⟩
abbrev cX9_nibblesOf : ByteArray := prog_11_method_12_code
def yX9_nibblesOf : MethodName := ⟨RX9, "nibblesOf", "(I[I)J"⟩
abbrev cX9_sumOf : ByteArray := prog_11_method_13_code
def yX9_sumOf : MethodName := ⟨RX9, "sumOf", "(J)I"⟩
abbrev cX9_at : ByteArray := prog_11_method_14_code
def yX9_at : MethodName := ⟨RX9, "at", "(II)I"⟩
abbrev cX9_parity : ByteArray := prog_11_method_15_code
def yX9_parity : MethodName := ⟨RX9, "parity", "([II)I"⟩
abbrev cX9_fill : ByteArray := prog_11_method_16_code
def yX9_fill : MethodName := ⟨RX9, "fill", "([II)Z"⟩
abbrev cX9_mended : ByteArray := prog_11_method_17_code
def yX9_mended : MethodName := ⟨RX9, "mended", "([I)[I"⟩
abbrev cX9_worth : ByteArray := prog_11_method_18_code
def yX9_worth : MethodName := ⟨RX9, "worth", "(I[I)I"⟩
abbrev cX9_worth_ : ByteArray := prog_11_method_19_code
def yX9_worth_ : MethodName := ⟨RX9, "worth", "(I)I"⟩
abbrev cX9_isGood : ByteArray := prog_11_method_20_code
def yX9_isGood : MethodName := ⟨RX9, "isGood", "(I)Z"⟩
abbrev cX9_bit : ByteArray := prog_11_method_21_code
def yX9_bit : MethodName := ⟨RX9, "bit", "([II)V"⟩
abbrev cX9_after : ByteArray := prog_11_method_22_code
def yX9_after : MethodName := ⟨RX9, "after", "([III)[I"⟩
abbrev cX9_marks : ByteArray := prog_11_method_23_code
def yX9_marks : MethodName := ⟨RX9, "marks", "([I)[I"⟩
abbrev cX9_session : ByteArray := prog_11_method_24_code
def yX9_session : MethodName := ⟨RX9, "session", "()I"⟩
abbrev cX9_track : ByteArray := prog_11_method_25_code
def yX9_track : MethodName := ⟨RX9, "track", "(II)I"⟩
abbrev cX9_isDone : ByteArray := prog_11_method_26_code
def yX9_isDone : MethodName := ⟨RX9, "isDone", "(I)Z"⟩
abbrev cX9_write : ByteArray := prog_11_method_27_code
def yX9_write : MethodName := ⟨RX9, "write", "(IJ)I"⟩
abbrev cX9_starve : ByteArray := prog_11_method_28_code
def yX9_starve : MethodName := ⟨RX9, "starve", "(I)I"⟩
abbrev cX9_close : ByteArray := prog_11_method_29_code
def yX9_close : MethodName := ⟨RX9, "close", "(I)I"⟩
abbrev cX9_end : ByteArray := prog_11_method_30_code
def yX9_end : MethodName := ⟨RX9, "end", "()I"⟩
abbrev cX9_isNoFile : ByteArray := prog_11_method_31_code
def yX9_isNoFile : MethodName := ⟨RX9, "isNoFile", "(I)Z"⟩
abbrev cX9_file : ByteArray := prog_11_method_32_code
def yX9_file : MethodName := ⟨RX9, "file", "(III)I"⟩
abbrev cX9_turnOf : ByteArray := prog_11_method_33_code
def yX9_turnOf : MethodName := ⟨RX9, "turnOf", "(I)I"⟩
abbrev cX9_angleOf : ByteArray := prog_11_method_34_code
def yX9_angleOf : MethodName := ⟨RX9, "angleOf", "(I)D"⟩
abbrev cX9_scratch : ByteArray := prog_11_method_35_code
def yX9_scratch : MethodName := ⟨RX9, "scratch", "(IIII)I"⟩
abbrev cX9_rot : ByteArray := prog_11_method_36_code
def yX9_rot : MethodName := ⟨RX9, "rot", "(I)I"⟩
abbrev cX9_tray : ByteArray := prog_11_method_37_code
def yX9_tray : MethodName := ⟨RX9, "tray", "(Z)Z"⟩
abbrev cX9_push : ByteArray := prog_11_method_38_code
def yX9_push : MethodName := ⟨RX9, "push", "()I"⟩
abbrev cX9_seekFrom : ByteArray := prog_11_method_39_code
def yX9_seekFrom : MethodName := ⟨RX9, "seekFrom", "(II)D"⟩
abbrev cX9_readOf : ByteArray := prog_11_method_40_code
def yX9_readOf : MethodName := ⟨RX9, "readOf", "(I)D"⟩
abbrev cX9_behind : ByteArray := prog_11_method_41_code
def yX9_behind : MethodName := ⟨RX9, "behind", "(I)I"⟩
abbrev cX9_read : ByteArray := prog_11_method_42_code
def yX9_read : MethodName := ⟨RX9, "read", "(I)I"⟩
abbrev cX9_seek : ByteArray := prog_11_method_43_code
def yX9_seek : MethodName := ⟨RX9, "seek", "(I)D"⟩
abbrev cX9_clock : ByteArray := prog_11_method_44_code
def yX9_clock : MethodName := ⟨RX9, "clock", "()D"⟩
abbrev cX9_angle : ByteArray := prog_11_method_45_code
def yX9_angle : MethodName := ⟨RX9, "angle", "(I)D"⟩
abbrev cX9_toldOfSector : ByteArray := prog_11_method_46_code
def yX9_toldOfSector : MethodName := ⟨RX9, "toldOfSector", "(II)I"⟩
abbrev cX9_ofSector : ByteArray := prog_11_method_47_code
def yX9_ofSector : MethodName := ⟨RX9, "ofSector", "(II)I"⟩
abbrev cX9_nibblesAt : ByteArray := prog_11_method_48_code
def yX9_nibblesAt : MethodName := ⟨RX9, "nibblesAt", "(IZ)J"⟩
abbrev cX9_nibbles : ByteArray := prog_11_method_49_code
def yX9_nibbles : MethodName := ⟨RX9, "nibbles", "(IZ)J"⟩
abbrev cX9_place : ByteArray := prog_11_method_50_code
def yX9_place : MethodName := ⟨RX9, "place", "(II)I"⟩
abbrev cX9_toldOfTrack : ByteArray := prog_11_method_51_code
def yX9_toldOfTrack : MethodName := ⟨RX9, "toldOfTrack", "(II)I"⟩
abbrev cX9_ofTrack : ByteArray := prog_11_method_52_code
def yX9_ofTrack : MethodName := ⟨RX9, "ofTrack", "(II)I"⟩
abbrev cX9_toldOfFile : ByteArray := prog_11_method_53_code
def yX9_toldOfFile : MethodName := ⟨RX9, "toldOfFile", "(III)I"⟩
abbrev cX9_ofFile : ByteArray := prog_11_method_54_code
def yX9_ofFile : MethodName := ⟨RX9, "ofFile", "(III)I"⟩
abbrev cX9_sample : ByteArray := prog_11_method_55_code
def yX9_sample : MethodName := ⟨RX9, "sample", "(I)F"⟩
abbrev cX9_isHeard : ByteArray := prog_11_method_56_code
def yX9_isHeard : MethodName := ⟨RX9, "isHeard", "(II)Z"⟩
abbrev cX9_play : ByteArray := prog_11_method_57_code
def yX9_play : MethodName := ⟨RX9, "play", "(I)D"⟩
abbrev cX9_told : ByteArray := prog_11_method_58_code
def yX9_told : MethodName := ⟨RX9, "told", "(I)I"⟩
abbrev cX9_many : ByteArray := prog_11_method_59_code
def yX9_many : MethodName := ⟨RX9, "many", "(I)I"⟩
abbrev cX9_wouldTake : ByteArray := prog_11_method_60_code
def yX9_wouldTake : MethodName := ⟨RX9, "wouldTake", "(II)D"⟩
abbrev cX9_wouldMend : ByteArray := prog_11_method_61_code
def yX9_wouldMend : MethodName := ⟨RX9, "wouldMend", "(II)I"⟩
abbrev cX9_add : ByteArray := prog_11_method_62_code
def yX9_add : MethodName := ⟨RX9, "add", "(JJ)J"⟩
abbrev cX9_digest : ByteArray := prog_11_method_63_code
def yX9_digest : MethodName := ⟨RX9, "digest", "()J"⟩
def RJx145de : String := "java/io/Serializable"
def TJx145de : u_T := fun k => match k with
  | _ => ("", "", "", false)
def tyJx145de : Nat → FieldType := fun k => match k with
  | _ => .int
abbrev wsJx145de0 : List Cond := u_ws RJx145de TJx145de 0
theorem nmJx145de : ∀ a, a < 0 → ∀ b, b < 0 → a ≠ b → (TJx145de a).2.1 ≠ (TJx145de b).2.1 := by decide +kernel
theorem tyJx145de_ok : ∀ k, k < 0 → parseFieldDescriptor (TJx145de k).2.2.1 = some (tyJx145de k) := by decide +kernel
def RJx8e188 : String := "java/lang/Cloneable"
def TJx8e188 : u_T := fun k => match k with
  | _ => ("", "", "", false)
def tyJx8e188 : Nat → FieldType := fun k => match k with
  | _ => .int
abbrev wsJx8e1880 : List Cond := u_ws RJx8e188 TJx8e188 0
theorem nmJx8e188 : ∀ a, a < 0 → ∀ b, b < 0 → a ≠ b → (TJx8e188 a).2.1 ≠ (TJx8e188 b).2.1 := by decide +kernel
theorem tyJx8e188_ok : ∀ k, k < 0 → parseFieldDescriptor (TJx8e188 k).2.2.1 = some (tyJx8e188 k) := by decide +kernel
def RJ6 : String := "java/lang/Integer"
def TJ6 : u_T := fun k => match k with
  | _ => ("", "", "", false)
def tyJ6 : Nat → FieldType := fun k => match k with
  | _ => .int
abbrev wsJ60 : List Cond := u_ws RJ6 TJ6 0
theorem nmJ6 : ∀ a, a < 0 → ∀ b, b < 0 → a ≠ b → (TJ6 a).2.1 ≠ (TJ6 b).2.1 := by decide +kernel
theorem tyJ6_ok : ∀ k, k < 0 → parseFieldDescriptor (TJ6 k).2.2.1 = some (tyJ6 k) := by decide +kernel
abbrev cJ6_numberOfTrailingZeros_0f7a4 : ByteArray := prog_18_method_48_code
def yJ6_numberOfTrailingZeros_0f7a4 : MethodName := ⟨RJ6, "numberOfTrailingZeros", "(I)I"⟩
abbrev cJ6_bitCount_0f7a4 : ByteArray := prog_18_method_49_code
def yJ6_bitCount_0f7a4 : MethodName := ⟨RJ6, "bitCount", "(I)I"⟩
def RJxab1ab : String := "java/lang/Iterable"
def TJxab1ab : u_T := fun k => match k with
  | _ => ("", "", "", false)
def tyJxab1ab : Nat → FieldType := fun k => match k with
  | _ => .int
abbrev wsJxab1ab0 : List Cond := u_ws RJxab1ab TJxab1ab 0
theorem nmJxab1ab : ∀ a, a < 0 → ∀ b, b < 0 → a ≠ b → (TJxab1ab a).2.1 ≠ (TJxab1ab b).2.1 := by decide +kernel
theorem tyJxab1ab_ok : ∀ k, k < 0 → parseFieldDescriptor (TJxab1ab k).2.2.1 = some (tyJxab1ab k) := by decide +kernel
def RJ9 : String := "java/lang/Math"
def TJ9 : u_T := fun k => match k with
  | _ => ("", "", "", false)
def tyJ9 : Nat → FieldType := fun k => match k with
  | _ => .int
abbrev wsJ90 : List Cond := u_ws RJ9 TJ9 0
theorem nmJ9 : ∀ a, a < 0 → ∀ b, b < 0 → a ≠ b → (TJ9 a).2.1 ≠ (TJ9 b).2.1 := by decide +kernel
theorem tyJ9_ok : ∀ k, k < 0 → parseFieldDescriptor (TJ9 k).2.2.1 = some (tyJ9 k) := by decide +kernel
abbrev cJ9_abs_0f7a4 : ByteArray := prog_20_method_59_code
def yJ9_abs_0f7a4 : MethodName := ⟨RJ9, "abs", "(I)I"⟩
abbrev cJ9_max_7cf53 : ByteArray := prog_20_method_65_code
def yJ9_max_7cf53 : MethodName := ⟨RJ9, "max", "(II)I"⟩
abbrev cJ9_min_7cf53 : ByteArray := prog_20_method_69_code
def yJ9_min_7cf53 : MethodName := ⟨RJ9, "min", "(II)I"⟩
def RJ0 : String := "java/lang/String"
def TJ0 : u_T := fun k => match k with
  | _ => ("", "", "", false)
def tyJ0 : Nat → FieldType := fun k => match k with
  | _ => .int
abbrev wsJ00 : List Cond := u_ws RJ0 TJ0 0
theorem nmJ0 : ∀ a, a < 0 → ∀ b, b < 0 → a ≠ b → (TJ0 a).2.1 ≠ (TJ0 b).2.1 := by decide +kernel
theorem tyJ0_ok : ∀ k, k < 0 → parseFieldDescriptor (TJ0 k).2.2.1 = some (tyJ0 k) := by decide +kernel
def RJ10 : String := "java/lang/System"
def TJ10 : u_T := fun k => match k with
  | _ => ("", "", "", false)
def tyJ10 : Nat → FieldType := fun k => match k with
  | _ => .int
abbrev wsJ100 : List Cond := u_ws RJ10 TJ10 0
theorem nmJ10 : ∀ a, a < 0 → ∀ b, b < 0 → a ≠ b → (TJ10 a).2.1 ≠ (TJ10 b).2.1 := by decide +kernel
theorem tyJ10_ok : ∀ k, k < 0 → parseFieldDescriptor (TJ10 k).2.2.1 = some (tyJ10 k) := by decide +kernel
def RJxa1e45 : String := "java/util/AbstractCollection"
def TJxa1e45 : u_T := fun k => match k with
  | _ => ("", "", "", false)
def tyJxa1e45 : Nat → FieldType := fun k => match k with
  | _ => .int
abbrev wsJxa1e450 : List Cond := u_ws RJxa1e45 TJxa1e45 0
theorem nmJxa1e45 : ∀ a, a < 0 → ∀ b, b < 0 → a ≠ b → (TJxa1e45 a).2.1 ≠ (TJxa1e45 b).2.1 := by decide +kernel
theorem tyJxa1e45_ok : ∀ k, k < 0 → parseFieldDescriptor (TJxa1e45 k).2.2.1 = some (tyJxa1e45 k) := by decide +kernel
abbrev cJxa1e45_init_da8c8 : ByteArray := prog_25_method_1_code
def yJxa1e45_init_da8c8 : MethodName := ⟨RJxa1e45, "<init>", "()V"⟩
def RJxc12de : String := "java/util/AbstractList"
def TJxc12de : u_T := fun k => match k with
  | _ => ("", "", "", false)
def tyJxc12de : Nat → FieldType := fun k => match k with
  | _ => .int
abbrev wsJxc12de0 : List Cond := u_ws RJxc12de TJxc12de 0
theorem nmJxc12de : ∀ a, a < 0 → ∀ b, b < 0 → a ≠ b → (TJxc12de a).2.1 ≠ (TJxc12de b).2.1 := by decide +kernel
theorem tyJxc12de_ok : ∀ k, k < 0 → parseFieldDescriptor (TJxc12de k).2.2.1 = some (tyJxc12de k) := by decide +kernel
abbrev cJxc12de_init_da8c8 : ByteArray := prog_26_method_1_code
def yJxc12de_init_da8c8 : MethodName := ⟨RJxc12de, "<init>", "()V"⟩
def RJx35411 : String := "java/util/ArrayList$Itr"
def TJx35411 : u_T := fun k => match k with
  | 0 => ("java/util/ArrayList$Itr", "cursor", "I", false)
  | 1 => ("java/util/ArrayList$Itr", "lastRet", "I", false)
  | 2 => ("java/util/ArrayList$Itr", "expectedModCount", "I", false)
  | _ => ("java/util/ArrayList$Itr", "this$0", "Ljava/util/ArrayList;", true)
def tyJx35411 : Nat → FieldType := fun k => match k with
  | 0 => .int
  | 1 => .int
  | 2 => .int
  | _ => .object "java/util/ArrayList"
abbrev wsJx354110 : List Cond := u_ws RJx35411 TJx35411 4
theorem nmJx35411 : ∀ a, a < 4 → ∀ b, b < 4 → a ≠ b → (TJx35411 a).2.1 ≠ (TJx35411 b).2.1 := by decide +kernel
theorem tyJx35411_ok : ∀ k, k < 4 → parseFieldDescriptor (TJx35411 k).2.2.1 = some (tyJx35411 k) := by decide +kernel
abbrev cJx35411_init_45d68 : ByteArray := prog_28_method_1_code
def yJx35411_init_45d68 : MethodName := ⟨RJx35411, "<init>", "(Ljava/util/ArrayList;)V"⟩
abbrev cJx35411_hasNext_aae02 : ByteArray := prog_28_method_2_code
def yJx35411_hasNext_aae02 : MethodName := ⟨RJx35411, "hasNext", "()Z"⟩
abbrev cJx35411_next_0502b : ByteArray := prog_28_method_3_code
def yJx35411_next_0502b : MethodName := ⟨RJx35411, "next", "()Ljava/lang/Object;"⟩
abbrev cJx35411_checkForComodification_da8c8 : ByteArray := prog_28_method_6_code
def yJx35411_checkForComodification_da8c8 : MethodName := ⟨RJx35411, "checkForComodification", "()V"⟩
def RJx4a65c : String := "java/util/ArrayList"
def TJx4a65c : u_T := fun k => match k with
  | 0 => ("java/util/AbstractList", "modCount", "I", false)
  | 1 => ("java/util/ArrayList", "elementData", "[Ljava/lang/Object;", false)
  | _ => ("java/util/ArrayList", "size", "I", false)
def tyJx4a65c : Nat → FieldType := fun k => match k with
  | 0 => .int
  | 1 => .array (.object "java/lang/Object")
  | _ => .int
abbrev wsJx4a65c0 : List Cond := u_ws RJx4a65c TJx4a65c 3
theorem nmJx4a65c : ∀ a, a < 3 → ∀ b, b < 3 → a ≠ b → (TJx4a65c a).2.1 ≠ (TJx4a65c b).2.1 := by decide +kernel
theorem tyJx4a65c_ok : ∀ k, k < 3 → parseFieldDescriptor (TJx4a65c k).2.2.1 = some (tyJx4a65c k) := by decide +kernel
abbrev cJx4a65c_init_da8c8 : ByteArray := prog_27_method_2_code
def yJx4a65c_init_da8c8 : MethodName := ⟨RJx4a65c, "<init>", "()V"⟩
abbrev cJx4a65c_grow_92f84 : ByteArray := prog_27_method_6_code
def yJx4a65c_grow_92f84 : MethodName := ⟨RJx4a65c, "grow", "(I)[Ljava/lang/Object;"⟩
abbrev cJx4a65c_grow_d5877 : ByteArray := prog_27_method_7_code
def yJx4a65c_grow_d5877 : MethodName := ⟨RJx4a65c, "grow", "()[Ljava/lang/Object;"⟩
abbrev cJx4a65c_size_8abf5 : ByteArray := prog_27_method_8_code
def yJx4a65c_size_8abf5 : MethodName := ⟨RJx4a65c, "size", "()I"⟩
abbrev cJx4a65c_elementData_915e3 : ByteArray := prog_27_method_18_code
def yJx4a65c_elementData_915e3 : MethodName := ⟨RJx4a65c, "elementData", "(I)Ljava/lang/Object;"⟩
abbrev cJx4a65c_get_915e3 : ByteArray := prog_27_method_20_code
def yJx4a65c_get_915e3 : MethodName := ⟨RJx4a65c, "get", "(I)Ljava/lang/Object;"⟩
abbrev cJx4a65c_add_72be8 : ByteArray := prog_27_method_24_code
def yJx4a65c_add_72be8 : MethodName := ⟨RJx4a65c, "add", "(Ljava/lang/Object;[Ljava/lang/Object;I)V"⟩
abbrev cJx4a65c_add_9ea2d : ByteArray := prog_27_method_25_code
def yJx4a65c_add_9ea2d : MethodName := ⟨RJx4a65c, "add", "(Ljava/lang/Object;)Z"⟩
abbrev cJx4a65c_iterator_32c93 : ByteArray := prog_27_method_55_code
def yJx4a65c_iterator_32c93 : MethodName := ⟨RJx4a65c, "iterator", "()Ljava/util/Iterator;"⟩
def RJ7 : String := "java/util/Arrays"
def TJ7 : u_T := fun k => match k with
  | _ => ("", "", "", false)
def tyJ7 : Nat → FieldType := fun k => match k with
  | _ => .int
abbrev wsJ70 : List Cond := u_ws RJ7 TJ7 0
theorem nmJ7 : ∀ a, a < 0 → ∀ b, b < 0 → a ≠ b → (TJ7 a).2.1 ≠ (TJ7 b).2.1 := by decide +kernel
theorem tyJ7_ok : ∀ k, k < 0 → parseFieldDescriptor (TJ7 k).2.2.1 = some (tyJ7 k) := by decide +kernel
abbrev cJ7_copyOf_1904c : ByteArray := prog_29_method_119_code
def yJ7_copyOf_1904c : MethodName := ⟨RJ7, "copyOf", "([Ljava/lang/Object;I)[Ljava/lang/Object;"⟩
abbrev cJ7_copyOf_6403c : ByteArray := prog_29_method_120_code
def yJ7_copyOf_6403c : MethodName := ⟨RJ7, "copyOf", "([Ljava/lang/Object;ILjava/lang/Class;)[Ljava/lang/Object;"⟩
def RJx5ef63 : String := "java/util/Collection"
def TJx5ef63 : u_T := fun k => match k with
  | _ => ("", "", "", false)
def tyJx5ef63 : Nat → FieldType := fun k => match k with
  | _ => .int
abbrev wsJx5ef630 : List Cond := u_ws RJx5ef63 TJx5ef63 0
theorem nmJx5ef63 : ∀ a, a < 0 → ∀ b, b < 0 → a ≠ b → (TJx5ef63 a).2.1 ≠ (TJx5ef63 b).2.1 := by decide +kernel
theorem tyJx5ef63_ok : ∀ k, k < 0 → parseFieldDescriptor (TJx5ef63 k).2.2.1 = some (tyJx5ef63 k) := by decide +kernel
def RJx4d0d8 : String := "java/util/Iterator"
def TJx4d0d8 : u_T := fun k => match k with
  | _ => ("", "", "", false)
def tyJx4d0d8 : Nat → FieldType := fun k => match k with
  | _ => .int
abbrev wsJx4d0d80 : List Cond := u_ws RJx4d0d8 TJx4d0d8 0
theorem nmJx4d0d8 : ∀ a, a < 0 → ∀ b, b < 0 → a ≠ b → (TJx4d0d8 a).2.1 ≠ (TJx4d0d8 b).2.1 := by decide +kernel
theorem tyJx4d0d8_ok : ∀ k, k < 0 → parseFieldDescriptor (TJx4d0d8 k).2.2.1 = some (tyJx4d0d8 k) := by decide +kernel
def RJxbd725 : String := "java/util/List"
def TJxbd725 : u_T := fun k => match k with
  | _ => ("", "", "", false)
def tyJxbd725 : Nat → FieldType := fun k => match k with
  | _ => .int
abbrev wsJxbd7250 : List Cond := u_ws RJxbd725 TJxbd725 0
theorem nmJxbd725 : ∀ a, a < 0 → ∀ b, b < 0 → a ≠ b → (TJxbd725 a).2.1 ≠ (TJxbd725 b).2.1 := by decide +kernel
theorem tyJxbd725_ok : ∀ k, k < 0 → parseFieldDescriptor (TJxbd725 k).2.2.1 = some (tyJxbd725 k) := by decide +kernel
def RJ15 : String := "java/util/Objects"
def TJ15 : u_T := fun k => match k with
  | _ => ("", "", "", false)
def tyJ15 : Nat → FieldType := fun k => match k with
  | _ => .int
abbrev wsJ150 : List Cond := u_ws RJ15 TJ15 0
theorem nmJ15 : ∀ a, a < 0 → ∀ b, b < 0 → a ≠ b → (TJ15 a).2.1 ≠ (TJ15 b).2.1 := by decide +kernel
theorem tyJ15_ok : ∀ k, k < 0 → parseFieldDescriptor (TJ15 k).2.2.1 = some (tyJ15 k) := by decide +kernel
abbrev cJ15_checkIndex_7cf53 : ByteArray := prog_33_method_17_code
def yJ15_checkIndex_7cf53 : MethodName := ⟨RJ15, "checkIndex", "(II)I"⟩
def RJxf0a74 : String := "java/util/RandomAccess"
def TJxf0a74 : u_T := fun k => match k with
  | _ => ("", "", "", false)
def tyJxf0a74 : Nat → FieldType := fun k => match k with
  | _ => .int
abbrev wsJxf0a740 : List Cond := u_ws RJxf0a74 TJxf0a74 0
theorem nmJxf0a74 : ∀ a, a < 0 → ∀ b, b < 0 → a ≠ b → (TJxf0a74 a).2.1 ≠ (TJxf0a74 b).2.1 := by decide +kernel
theorem tyJxf0a74_ok : ∀ k, k < 0 → parseFieldDescriptor (TJxf0a74 k).2.2.1 = some (tyJxf0a74 k) := by decide +kernel
def RJxa66e6 : String := "java/util/SequencedCollection"
def TJxa66e6 : u_T := fun k => match k with
  | _ => ("", "", "", false)
def tyJxa66e6 : Nat → FieldType := fun k => match k with
  | _ => .int
abbrev wsJxa66e60 : List Cond := u_ws RJxa66e6 TJxa66e6 0
theorem nmJxa66e6 : ∀ a, a < 0 → ∀ b, b < 0 → a ≠ b → (TJxa66e6 a).2.1 ≠ (TJxa66e6 b).2.1 := by decide +kernel
theorem tyJxa66e6_ok : ∀ k, k < 0 → parseFieldDescriptor (TJxa66e6 k).2.2.1 = some (tyJxa66e6 k) := by decide +kernel
def RJ8 : String := "jdk/internal/util/ArraysSupport"
def TJ8 : u_T := fun k => match k with
  | _ => ("", "", "", false)
def tyJ8 : Nat → FieldType := fun k => match k with
  | _ => .int
abbrev wsJ80 : List Cond := u_ws RJ8 TJ8 0
theorem nmJ8 : ∀ a, a < 0 → ∀ b, b < 0 → a ≠ b → (TJ8 a).2.1 ≠ (TJ8 b).2.1 := by decide +kernel
theorem tyJ8_ok : ∀ k, k < 0 → parseFieldDescriptor (TJ8 k).2.2.1 = some (tyJ8 k) := by decide +kernel
abbrev cJ8_newLength_cabcc : ByteArray := prog_36_method_27_code
def yJ8_newLength_cabcc : MethodName := ⟨RJ8, "newLength", "(III)I"⟩
abbrev cJ8_hugeLength_7cf53 : ByteArray := prog_36_method_28_code
def yJ8_hugeLength_7cf53 : MethodName := ⟨RJ8, "hugeLength", "(II)I"⟩
def RJ3 : String := "jdk/internal/util/Preconditions"
def TJ3 : u_T := fun k => match k with
  | _ => ("", "", "", false)
def tyJ3 : Nat → FieldType := fun k => match k with
  | _ => .int
abbrev wsJ30 : List Cond := u_ws RJ3 TJ3 0
theorem nmJ3 : ∀ a, a < 0 → ∀ b, b < 0 → a ≠ b → (TJ3 a).2.1 ≠ (TJ3 b).2.1 := by decide +kernel
theorem tyJ3_ok : ∀ k, k < 0 → parseFieldDescriptor (TJ3 k).2.2.1 = some (tyJ3 k) := by decide +kernel
abbrev cJ3_checkIndex_8e157 : ByteArray := prog_37_method_11_code
def yJ3_checkIndex_8e157 : MethodName := ⟨RJ3, "checkIndex", "(IILjava/util/function/BiFunction;)I"⟩
def RL : String := "PitHouseLaw"
abbrev cL_session : ByteArray := method_3_code
def yL_session : MethodName := ⟨RL, "session", "(LPitHouse;[J)I"⟩
abbrev cL_track : ByteArray := method_4_code
def yL_track : MethodName := ⟨RL, "track", "(LPitHouse;II[J)I"⟩
abbrev cL_write : ByteArray := method_5_code
def yL_write : MethodName := ⟨RL, "write", "(LPitHouse;IJ[J)I"⟩
abbrev cL_starve : ByteArray := method_6_code
def yL_starve : MethodName := ⟨RL, "starve", "(LPitHouse;I[J)I"⟩
abbrev cL_close : ByteArray := method_7_code
def yL_close : MethodName := ⟨RL, "close", "(LPitHouse;I[J)I"⟩
abbrev cL_end : ByteArray := method_8_code
def yL_end : MethodName := ⟨RL, "end", "(LPitHouse;[J)I"⟩
abbrev cL_file : ByteArray := method_9_code
def yL_file : MethodName := ⟨RL, "file", "(LPitHouse;III[J)I"⟩
abbrev cL_scratch : ByteArray := method_10_code
def yL_scratch : MethodName := ⟨RL, "scratch", "(LPitHouse;IIII[J)I"⟩
abbrev cL_rot : ByteArray := method_11_code
def yL_rot : MethodName := ⟨RL, "rot", "(LPitHouse;I[J)I"⟩
abbrev cL_read : ByteArray := method_12_code
def yL_read : MethodName := ⟨RL, "read", "(LPitHouse;I[J)I"⟩
abbrev cL_seek : ByteArray := method_13_code
def yL_seek : MethodName := ⟨RL, "seek", "(LPitHouse;I[D)I"⟩
abbrev cL_angle : ByteArray := method_14_code
def yL_angle : MethodName := ⟨RL, "angle", "(LPitHouse;I[D)I"⟩
abbrev cL_ofSector : ByteArray := method_15_code
def yL_ofSector : MethodName := ⟨RL, "ofSector", "(LPitHouse;II[J)I"⟩
abbrev cL_nibbles : ByteArray := method_16_code
def yL_nibbles : MethodName := ⟨RL, "nibbles", "(LPitHouse;IZ[J)I"⟩
abbrev cL_place : ByteArray := method_17_code
def yL_place : MethodName := ⟨RL, "place", "(LPitHouse;II[J)I"⟩
abbrev cL_ofTrack : ByteArray := method_18_code
def yL_ofTrack : MethodName := ⟨RL, "ofTrack", "(LPitHouse;II[J)I"⟩
abbrev cL_ofFile : ByteArray := method_19_code
def yL_ofFile : MethodName := ⟨RL, "ofFile", "(LPitHouse;III[J)I"⟩
abbrev cL_play : ByteArray := method_20_code
def yL_play : MethodName := ⟨RL, "play", "(LPitHouse;I[D)I"⟩
abbrev cL_many : ByteArray := method_21_code
def yL_many : MethodName := ⟨RL, "many", "(LPitHouse;I[J)I"⟩
abbrev cL_wouldTake : ByteArray := method_22_code
def yL_wouldTake : MethodName := ⟨RL, "wouldTake", "(LPitHouse;II[D)I"⟩
abbrev cL_wouldMend : ByteArray := method_23_code
def yL_wouldMend : MethodName := ⟨RL, "wouldMend", "(LPitHouse;II[J)I"⟩
abbrev cL_law : ByteArray := code
def yL_law : MethodName := ⟨RL, "law", "([I)Z"⟩
