section
-- ===== PART A: goes FIRST, ahead of the names: the tables' words, and 'selects' of the private methods out of them =====
/-- a private method of a class that the tables say can be made, by its rows of tables_1 -/
def lw_okq (q : MethodName × Nat) : Prop := (q.1.cls ≠ "java/lang/invoke/MethodHandle" ∧ q.1.cls ≠ "java/lang/invoke/VarHandle") ∧ Cond.instantiable q.1.cls q.2 ∈ tables_1 ∧ Cond.privateMethod q.1 ∈ tables_1 ∧ Cond.instanceMethod q.1 ∈ tables_1
theorem lw_p0 : lw_okq (⟨"java/lang/Throwable", "fillInStackTrace", "(I)Ljava/lang/Throwable;"⟩, 6) := ⟨⟨by decide +kernel, by decide +kernel⟩, List.mem_of_getElem? (i := 442) (by decide +kernel), List.mem_of_getElem? (i := 440) (by decide +kernel), List.mem_of_getElem? (i := 441) (by decide +kernel)⟩
theorem lw_p1 : lw_okq (⟨"ManorLoops", "foldRooms", "(J)J"⟩, 4) := ⟨⟨by decide +kernel, by decide +kernel⟩, List.mem_of_getElem? (i := 24) (by decide +kernel), List.mem_of_getElem? (i := 490) (by decide +kernel), List.mem_of_getElem? (i := 491) (by decide +kernel)⟩
theorem lw_p2 : lw_okq (⟨"ManorLoops", "checkRoom", "(I)V"⟩, 4) := ⟨⟨by decide +kernel, by decide +kernel⟩, List.mem_of_getElem? (i := 24) (by decide +kernel), List.mem_of_getElem? (i := 498) (by decide +kernel), List.mem_of_getElem? (i := 499) (by decide +kernel)⟩
theorem lw_p3 : lw_okq (⟨"ManorLoops", "foldTracks", "(J)J"⟩, 4) := ⟨⟨by decide +kernel, by decide +kernel⟩, List.mem_of_getElem? (i := 24) (by decide +kernel), List.mem_of_getElem? (i := 542) (by decide +kernel), List.mem_of_getElem? (i := 543) (by decide +kernel)⟩
theorem lw_p4 : lw_okq (⟨"ManorLoops", "checkTrack", "(I)V"⟩, 4) := ⟨⟨by decide +kernel, by decide +kernel⟩, List.mem_of_getElem? (i := 24) (by decide +kernel), List.mem_of_getElem? (i := 550) (by decide +kernel), List.mem_of_getElem? (i := 551) (by decide +kernel)⟩
theorem lw_p5 : lw_okq (⟨"ManorLoops", "foldScenes", "(J)J"⟩, 4) := ⟨⟨by decide +kernel, by decide +kernel⟩, List.mem_of_getElem? (i := 24) (by decide +kernel), List.mem_of_getElem? (i := 598) (by decide +kernel), List.mem_of_getElem? (i := 599) (by decide +kernel)⟩
theorem lw_p6 : lw_okq (⟨"ManorLoops", "checkScene", "(I)V"⟩, 4) := ⟨⟨by decide +kernel, by decide +kernel⟩, List.mem_of_getElem? (i := 24) (by decide +kernel), List.mem_of_getElem? (i := 606) (by decide +kernel), List.mem_of_getElem? (i := 607) (by decide +kernel)⟩
theorem lw_p7 : lw_okq (⟨"ManorLoops", "foldProps", "(J)J"⟩, 4) := ⟨⟨by decide +kernel, by decide +kernel⟩, List.mem_of_getElem? (i := 24) (by decide +kernel), List.mem_of_getElem? (i := 619) (by decide +kernel), List.mem_of_getElem? (i := 620) (by decide +kernel)⟩
theorem lw_p8 : lw_okq (⟨"ManorLoops", "checkProp", "(I)V"⟩, 4) := ⟨⟨by decide +kernel, by decide +kernel⟩, List.mem_of_getElem? (i := 24) (by decide +kernel), List.mem_of_getElem? (i := 627) (by decide +kernel), List.mem_of_getElem? (i := 628) (by decide +kernel)⟩
theorem lw_p9 : lw_okq (⟨"ManorLoops$Evening", "beginLoop", "()V"⟩, 8) := ⟨⟨by decide +kernel, by decide +kernel⟩, List.mem_of_getElem? (i := 173) (by decide +kernel), List.mem_of_getElem? (i := 679) (by decide +kernel), List.mem_of_getElem? (i := 680) (by decide +kernel)⟩
theorem lw_p10 : lw_okq (⟨"ManorLoops$Stage", "cut", "(I)V"⟩, 7) := ⟨⟨by decide +kernel, by decide +kernel⟩, List.mem_of_getElem? (i := 207) (by decide +kernel), List.mem_of_getElem? (i := 695) (by decide +kernel), List.mem_of_getElem? (i := 696) (by decide +kernel)⟩
theorem lw_p11 : lw_okq (⟨"ManorLoops$Evening", "moveTracks", "()V"⟩, 8) := ⟨⟨by decide +kernel, by decide +kernel⟩, List.mem_of_getElem? (i := 173) (by decide +kernel), List.mem_of_getElem? (i := 717) (by decide +kernel), List.mem_of_getElem? (i := 718) (by decide +kernel)⟩
theorem lw_p12 : lw_okq (⟨"ManorLoops$Evening", "moveTrack", "(II)V"⟩, 8) := ⟨⟨by decide +kernel, by decide +kernel⟩, List.mem_of_getElem? (i := 173) (by decide +kernel), List.mem_of_getElem? (i := 723) (by decide +kernel), List.mem_of_getElem? (i := 724) (by decide +kernel)⟩
theorem lw_p13 : lw_okq (⟨"ManorLoops$Evening", "performScenes", "()V"⟩, 8) := ⟨⟨by decide +kernel, by decide +kernel⟩, List.mem_of_getElem? (i := 173) (by decide +kernel), List.mem_of_getElem? (i := 734) (by decide +kernel), List.mem_of_getElem? (i := 735) (by decide +kernel)⟩
theorem lw_p14 : lw_okq (⟨"ManorLoops$Evening", "continueScene", "(I)V"⟩, 8) := ⟨⟨by decide +kernel, by decide +kernel⟩, List.mem_of_getElem? (i := 173) (by decide +kernel), List.mem_of_getElem? (i := 739) (by decide +kernel), List.mem_of_getElem? (i := 740) (by decide +kernel)⟩
theorem lw_p15 : lw_okq (⟨"ManorLoops$Evening", "greatestTrack", "(I)I"⟩, 8) := ⟨⟨by decide +kernel, by decide +kernel⟩, List.mem_of_getElem? (i := 173) (by decide +kernel), List.mem_of_getElem? (i := 747) (by decide +kernel), List.mem_of_getElem? (i := 748) (by decide +kernel)⟩
def lw_privs_1 : List (MethodName × Nat) := [(⟨"java/lang/Throwable", "fillInStackTrace", "(I)Ljava/lang/Throwable;"⟩, 6), (⟨"ManorLoops", "foldRooms", "(J)J"⟩, 4), (⟨"ManorLoops", "checkRoom", "(I)V"⟩, 4), (⟨"ManorLoops", "foldTracks", "(J)J"⟩, 4), (⟨"ManorLoops", "checkTrack", "(I)V"⟩, 4), (⟨"ManorLoops", "foldScenes", "(J)J"⟩, 4), (⟨"ManorLoops", "checkScene", "(I)V"⟩, 4), (⟨"ManorLoops", "foldProps", "(J)J"⟩, 4), (⟨"ManorLoops", "checkProp", "(I)V"⟩, 4), (⟨"ManorLoops$Evening", "beginLoop", "()V"⟩, 8), (⟨"ManorLoops$Stage", "cut", "(I)V"⟩, 7), (⟨"ManorLoops$Evening", "moveTracks", "()V"⟩, 8), (⟨"ManorLoops$Evening", "moveTrack", "(II)V"⟩, 8), (⟨"ManorLoops$Evening", "performScenes", "()V"⟩, 8), (⟨"ManorLoops$Evening", "continueScene", "(I)V"⟩, 8), (⟨"ManorLoops$Evening", "greatestTrack", "(I)I"⟩, 8)]
theorem lw_r1 : ∀ q ∈ lw_privs_1, lw_okq q := List.forall_mem_cons.mpr ⟨lw_p0, List.forall_mem_cons.mpr ⟨lw_p1, List.forall_mem_cons.mpr ⟨lw_p2, List.forall_mem_cons.mpr ⟨lw_p3, List.forall_mem_cons.mpr ⟨lw_p4, List.forall_mem_cons.mpr ⟨lw_p5, List.forall_mem_cons.mpr ⟨lw_p6, List.forall_mem_cons.mpr ⟨lw_p7, List.forall_mem_cons.mpr ⟨lw_p8, List.forall_mem_cons.mpr ⟨lw_p9, List.forall_mem_cons.mpr ⟨lw_p10, List.forall_mem_cons.mpr ⟨lw_p11, List.forall_mem_cons.mpr ⟨lw_p12, List.forall_mem_cons.mpr ⟨lw_p13, List.forall_mem_cons.mpr ⟨lw_p14, List.forall_mem_cons.mpr ⟨lw_p15, fun _ h => absurd h List.not_mem_nil⟩⟩⟩⟩⟩⟩⟩⟩⟩⟩⟩⟩⟩⟩⟩⟩
theorem lw_p16 : lw_okq (⟨"ManorLoops$Evening", "canBegin", "(I)Z"⟩, 8) := ⟨⟨by decide +kernel, by decide +kernel⟩, List.mem_of_getElem? (i := 173) (by decide +kernel), List.mem_of_getElem? (i := 756) (by decide +kernel), List.mem_of_getElem? (i := 757) (by decide +kernel)⟩
theorem lw_p17 : lw_okq (⟨"ManorLoops$Evening", "hasProp", "(I)Z"⟩, 8) := ⟨⟨by decide +kernel, by decide +kernel⟩, List.mem_of_getElem? (i := 173) (by decide +kernel), List.mem_of_getElem? (i := 765) (by decide +kernel), List.mem_of_getElem? (i := 766) (by decide +kernel)⟩
theorem lw_p18 : lw_okq (⟨"ManorLoops$Evening", "moveGuests", "()V"⟩, 8) := ⟨⟨by decide +kernel, by decide +kernel⟩, List.mem_of_getElem? (i := 173) (by decide +kernel), List.mem_of_getElem? (i := 778) (by decide +kernel), List.mem_of_getElem? (i := 779) (by decide +kernel)⟩
theorem lw_p19 : lw_okq (⟨"ManorLoops$Evening", "nextRoomOf", "(II)I"⟩, 8) := ⟨⟨by decide +kernel, by decide +kernel⟩, List.mem_of_getElem? (i := 173) (by decide +kernel), List.mem_of_getElem? (i := 783) (by decide +kernel), List.mem_of_getElem? (i := 784) (by decide +kernel)⟩
theorem lw_p20 : lw_okq (⟨"ManorLoops$Evening", "emptierRoom", "(I)I"⟩, 8) := ⟨⟨by decide +kernel, by decide +kernel⟩, List.mem_of_getElem? (i := 173) (by decide +kernel), List.mem_of_getElem? (i := 787) (by decide +kernel), List.mem_of_getElem? (i := 788) (by decide +kernel)⟩
theorem lw_p21 : lw_okq (⟨"ManorLoops$Evening", "nextRoomToScene", "(II)I"⟩, 8) := ⟨⟨by decide +kernel, by decide +kernel⟩, List.mem_of_getElem? (i := 173) (by decide +kernel), List.mem_of_getElem? (i := 792) (by decide +kernel), List.mem_of_getElem? (i := 793) (by decide +kernel)⟩
theorem lw_p22 : lw_okq (⟨"ManorLoops$Evening", "moveGuest", "(III)V"⟩, 8) := ⟨⟨by decide +kernel, by decide +kernel⟩, List.mem_of_getElem? (i := 173) (by decide +kernel), List.mem_of_getElem? (i := 797) (by decide +kernel), List.mem_of_getElem? (i := 798) (by decide +kernel)⟩
theorem lw_p23 : lw_okq (⟨"ManorLoops$Evening", "showScenes", "()V"⟩, 8) := ⟨⟨by decide +kernel, by decide +kernel⟩, List.mem_of_getElem? (i := 173) (by decide +kernel), List.mem_of_getElem? (i := 812) (by decide +kernel), List.mem_of_getElem? (i := 813) (by decide +kernel)⟩
theorem lw_p24 : lw_okq (⟨"ManorLoops$Evening", "showScene", "(I)V"⟩, 8) := ⟨⟨by decide +kernel, by decide +kernel⟩, List.mem_of_getElem? (i := 173) (by decide +kernel), List.mem_of_getElem? (i := 816) (by decide +kernel), List.mem_of_getElem? (i := 817) (by decide +kernel)⟩
theorem lw_p25 : lw_okq (⟨"ManorLoops", "foldGuests", "(J)J"⟩, 4) := ⟨⟨by decide +kernel, by decide +kernel⟩, List.mem_of_getElem? (i := 24) (by decide +kernel), List.mem_of_getElem? (i := 830) (by decide +kernel), List.mem_of_getElem? (i := 831) (by decide +kernel)⟩
theorem lw_p26 : lw_okq (⟨"ManorLoops", "checkGuest", "(I)V"⟩, 4) := ⟨⟨by decide +kernel, by decide +kernel⟩, List.mem_of_getElem? (i := 24) (by decide +kernel), List.mem_of_getElem? (i := 838) (by decide +kernel), List.mem_of_getElem? (i := 839) (by decide +kernel)⟩
theorem lw_p27 : lw_okq (⟨"ManorLoops", "countCutsOfTrial", "()I"⟩, 4) := ⟨⟨by decide +kernel, by decide +kernel⟩, List.mem_of_getElem? (i := 24) (by decide +kernel), List.mem_of_getElem? (i := 852) (by decide +kernel), List.mem_of_getElem? (i := 853) (by decide +kernel)⟩
theorem lw_p28 : lw_okq (⟨"ManorLoops$House", "shortenWays", "(II)V"⟩, 7) := ⟨⟨by decide +kernel, by decide +kernel⟩, List.mem_of_getElem? (i := 32) (by decide +kernel), List.mem_of_getElem? (i := 902) (by decide +kernel), List.mem_of_getElem? (i := 903) (by decide +kernel)⟩
theorem lw_p29 : lw_okq (⟨"ManorLoops$House", "shortenWay", "(IIII)V"⟩, 7) := ⟨⟨by decide +kernel, by decide +kernel⟩, List.mem_of_getElem? (i := 32) (by decide +kernel), List.mem_of_getElem? (i := 907) (by decide +kernel), List.mem_of_getElem? (i := 908) (by decide +kernel)⟩
theorem lw_p30 : lw_okq (⟨"ManorLoops$House", "findNext", "(II)I"⟩, 7) := ⟨⟨by decide +kernel, by decide +kernel⟩, List.mem_of_getElem? (i := 32) (by decide +kernel), List.mem_of_getElem? (i := 911) (by decide +kernel), List.mem_of_getElem? (i := 912) (by decide +kernel)⟩
theorem lw_p31 : lw_okq (⟨"ManorLoops$Evening", "isInUse", "(II)Z"⟩, 8) := ⟨⟨by decide +kernel, by decide +kernel⟩, List.mem_of_getElem? (i := 173) (by decide +kernel), List.mem_of_getElem? (i := 1021) (by decide +kernel), List.mem_of_getElem? (i := 1022) (by decide +kernel)⟩
def lw_privs_2 : List (MethodName × Nat) := [(⟨"ManorLoops$Evening", "canBegin", "(I)Z"⟩, 8), (⟨"ManorLoops$Evening", "hasProp", "(I)Z"⟩, 8), (⟨"ManorLoops$Evening", "moveGuests", "()V"⟩, 8), (⟨"ManorLoops$Evening", "nextRoomOf", "(II)I"⟩, 8), (⟨"ManorLoops$Evening", "emptierRoom", "(I)I"⟩, 8), (⟨"ManorLoops$Evening", "nextRoomToScene", "(II)I"⟩, 8), (⟨"ManorLoops$Evening", "moveGuest", "(III)V"⟩, 8), (⟨"ManorLoops$Evening", "showScenes", "()V"⟩, 8), (⟨"ManorLoops$Evening", "showScene", "(I)V"⟩, 8), (⟨"ManorLoops", "foldGuests", "(J)J"⟩, 4), (⟨"ManorLoops", "checkGuest", "(I)V"⟩, 4), (⟨"ManorLoops", "countCutsOfTrial", "()I"⟩, 4), (⟨"ManorLoops$House", "shortenWays", "(II)V"⟩, 7), (⟨"ManorLoops$House", "shortenWay", "(IIII)V"⟩, 7), (⟨"ManorLoops$House", "findNext", "(II)I"⟩, 7), (⟨"ManorLoops$Evening", "isInUse", "(II)Z"⟩, 8)]
theorem lw_r2 : ∀ q ∈ lw_privs_2, lw_okq q := List.forall_mem_cons.mpr ⟨lw_p16, List.forall_mem_cons.mpr ⟨lw_p17, List.forall_mem_cons.mpr ⟨lw_p18, List.forall_mem_cons.mpr ⟨lw_p19, List.forall_mem_cons.mpr ⟨lw_p20, List.forall_mem_cons.mpr ⟨lw_p21, List.forall_mem_cons.mpr ⟨lw_p22, List.forall_mem_cons.mpr ⟨lw_p23, List.forall_mem_cons.mpr ⟨lw_p24, List.forall_mem_cons.mpr ⟨lw_p25, List.forall_mem_cons.mpr ⟨lw_p26, List.forall_mem_cons.mpr ⟨lw_p27, List.forall_mem_cons.mpr ⟨lw_p28, List.forall_mem_cons.mpr ⟨lw_p29, List.forall_mem_cons.mpr ⟨lw_p30, List.forall_mem_cons.mpr ⟨lw_p31, fun _ h => absurd h List.not_mem_nil⟩⟩⟩⟩⟩⟩⟩⟩⟩⟩⟩⟩⟩⟩⟩⟩
theorem lw_p32 : lw_okq (⟨"ManorLoopsModel", "no", "(I)I"⟩, 2) := ⟨⟨by decide +kernel, by decide +kernel⟩, List.mem_of_getElem? (i := 1131) (by decide +kernel), List.mem_of_getElem? (i := 1228) (by decide +kernel), List.mem_of_getElem? (i := 1229) (by decide +kernel)⟩
theorem lw_p33 : lw_okq (⟨"ManorLoopsModel", "isRoom", "(I)Z"⟩, 2) := ⟨⟨by decide +kernel, by decide +kernel⟩, List.mem_of_getElem? (i := 1131) (by decide +kernel), List.mem_of_getElem? (i := 1241) (by decide +kernel), List.mem_of_getElem? (i := 1242) (by decide +kernel)⟩
theorem lw_p34 : lw_okq (⟨"ManorLoopsModel", "isProp", "(I)Z"⟩, 2) := ⟨⟨by decide +kernel, by decide +kernel⟩, List.mem_of_getElem? (i := 1131) (by decide +kernel), List.mem_of_getElem? (i := 1258) (by decide +kernel), List.mem_of_getElem? (i := 1259) (by decide +kernel)⟩
theorem lw_p35 : lw_okq (⟨"ManorLoopsModel$House", "overlap", "(II)Z"⟩, 16) := ⟨⟨by decide +kernel, by decide +kernel⟩, List.mem_of_getElem? (i := 1137) (by decide +kernel), List.mem_of_getElem? (i := 1266) (by decide +kernel), List.mem_of_getElem? (i := 1267) (by decide +kernel)⟩
theorem lw_p36 : lw_okq (⟨"ManorLoopsModel", "isGuest", "(I)Z"⟩, 2) := ⟨⟨by decide +kernel, by decide +kernel⟩, List.mem_of_getElem? (i := 1131) (by decide +kernel), List.mem_of_getElem? (i := 1282) (by decide +kernel), List.mem_of_getElem? (i := 1283) (by decide +kernel)⟩
theorem lw_p37 : lw_okq (⟨"ManorLoopsModel", "isTrack", "(I)Z"⟩, 2) := ⟨⟨by decide +kernel, by decide +kernel⟩, List.mem_of_getElem? (i := 1131) (by decide +kernel), List.mem_of_getElem? (i := 1286) (by decide +kernel), List.mem_of_getElem? (i := 1287) (by decide +kernel)⟩
theorem lw_p38 : lw_okq (⟨"ManorLoopsModel$House", "loop", "()V"⟩, 16) := ⟨⟨by decide +kernel, by decide +kernel⟩, List.mem_of_getElem? (i := 1137) (by decide +kernel), List.mem_of_getElem? (i := 1302) (by decide +kernel), List.mem_of_getElem? (i := 1303) (by decide +kernel)⟩
theorem lw_p39 : lw_okq (⟨"ManorLoopsModel$House", "isBusy", "(I)Z"⟩, 16) := ⟨⟨by decide +kernel, by decide +kernel⟩, List.mem_of_getElem? (i := 1137) (by decide +kernel), List.mem_of_getElem? (i := 1306) (by decide +kernel), List.mem_of_getElem? (i := 1307) (by decide +kernel)⟩
theorem lw_p40 : lw_okq (⟨"ManorLoopsModel$House", "walk", "([II)V"⟩, 16) := ⟨⟨by decide +kernel, by decide +kernel⟩, List.mem_of_getElem? (i := 1137) (by decide +kernel), List.mem_of_getElem? (i := 1321) (by decide +kernel), List.mem_of_getElem? (i := 1322) (by decide +kernel)⟩
theorem lw_p41 : lw_okq (⟨"ManorLoopsModel$House", "run", "([I)I"⟩, 16) := ⟨⟨by decide +kernel, by decide +kernel⟩, List.mem_of_getElem? (i := 1137) (by decide +kernel), List.mem_of_getElem? (i := 1333) (by decide +kernel), List.mem_of_getElem? (i := 1334) (by decide +kernel)⟩
theorem lw_p42 : lw_okq (⟨"ManorLoopsModel$House", "attend", "([I)V"⟩, 16) := ⟨⟨by decide +kernel, by decide +kernel⟩, List.mem_of_getElem? (i := 1137) (by decide +kernel), List.mem_of_getElem? (i := 1337) (by decide +kernel), List.mem_of_getElem? (i := 1338) (by decide +kernel)⟩
theorem lw_p43 : lw_okq (⟨"ManorLoopsModel$House", "wish", "([I)I"⟩, 16) := ⟨⟨by decide +kernel, by decide +kernel⟩, List.mem_of_getElem? (i := 1137) (by decide +kernel), List.mem_of_getElem? (i := 1349) (by decide +kernel), List.mem_of_getElem? (i := 1350) (by decide +kernel)⟩
theorem lw_p44 : lw_okq (⟨"ManorLoopsModel$House", "wander", "(I)I"⟩, 16) := ⟨⟨by decide +kernel, by decide +kernel⟩, List.mem_of_getElem? (i := 1137) (by decide +kernel), List.mem_of_getElem? (i := 1353) (by decide +kernel), List.mem_of_getElem? (i := 1354) (by decide +kernel)⟩
theorem lw_p45 : lw_okq (⟨"ManorLoopsModel$House", "move", "([II[[I)V"⟩, 16) := ⟨⟨by decide +kernel, by decide +kernel⟩, List.mem_of_getElem? (i := 1137) (by decide +kernel), List.mem_of_getElem? (i := 1362) (by decide +kernel), List.mem_of_getElem? (i := 1363) (by decide +kernel)⟩
theorem lw_p46 : lw_okq (⟨"ManorLoopsModel$House", "show", "(I)V"⟩, 16) := ⟨⟨by decide +kernel, by decide +kernel⟩, List.mem_of_getElem? (i := 1137) (by decide +kernel), List.mem_of_getElem? (i := 1366) (by decide +kernel), List.mem_of_getElem? (i := 1367) (by decide +kernel)⟩
theorem lw_p47 : lw_okq (⟨"ManorLoopsModel", "roomNow", "(II)I"⟩, 2) := ⟨⟨by decide +kernel, by decide +kernel⟩, List.mem_of_getElem? (i := 1131) (by decide +kernel), List.mem_of_getElem? (i := 1406) (by decide +kernel), List.mem_of_getElem? (i := 1407) (by decide +kernel)⟩
def lw_privs_3 : List (MethodName × Nat) := [(⟨"ManorLoopsModel", "no", "(I)I"⟩, 2), (⟨"ManorLoopsModel", "isRoom", "(I)Z"⟩, 2), (⟨"ManorLoopsModel", "isProp", "(I)Z"⟩, 2), (⟨"ManorLoopsModel$House", "overlap", "(II)Z"⟩, 16), (⟨"ManorLoopsModel", "isGuest", "(I)Z"⟩, 2), (⟨"ManorLoopsModel", "isTrack", "(I)Z"⟩, 2), (⟨"ManorLoopsModel$House", "loop", "()V"⟩, 16), (⟨"ManorLoopsModel$House", "isBusy", "(I)Z"⟩, 16), (⟨"ManorLoopsModel$House", "walk", "([II)V"⟩, 16), (⟨"ManorLoopsModel$House", "run", "([I)I"⟩, 16), (⟨"ManorLoopsModel$House", "attend", "([I)V"⟩, 16), (⟨"ManorLoopsModel$House", "wish", "([I)I"⟩, 16), (⟨"ManorLoopsModel$House", "wander", "(I)I"⟩, 16), (⟨"ManorLoopsModel$House", "move", "([II[[I)V"⟩, 16), (⟨"ManorLoopsModel$House", "show", "(I)V"⟩, 16), (⟨"ManorLoopsModel", "roomNow", "(II)I"⟩, 2)]
theorem lw_r3 : ∀ q ∈ lw_privs_3, lw_okq q := List.forall_mem_cons.mpr ⟨lw_p32, List.forall_mem_cons.mpr ⟨lw_p33, List.forall_mem_cons.mpr ⟨lw_p34, List.forall_mem_cons.mpr ⟨lw_p35, List.forall_mem_cons.mpr ⟨lw_p36, List.forall_mem_cons.mpr ⟨lw_p37, List.forall_mem_cons.mpr ⟨lw_p38, List.forall_mem_cons.mpr ⟨lw_p39, List.forall_mem_cons.mpr ⟨lw_p40, List.forall_mem_cons.mpr ⟨lw_p41, List.forall_mem_cons.mpr ⟨lw_p42, List.forall_mem_cons.mpr ⟨lw_p43, List.forall_mem_cons.mpr ⟨lw_p44, List.forall_mem_cons.mpr ⟨lw_p45, List.forall_mem_cons.mpr ⟨lw_p46, List.forall_mem_cons.mpr ⟨lw_p47, fun _ h => absurd h List.not_mem_nil⟩⟩⟩⟩⟩⟩⟩⟩⟩⟩⟩⟩⟩⟩⟩⟩
theorem lw_p48 : lw_okq (⟨"ManorLoopsModel", "wayNow", "(III)I"⟩, 2) := ⟨⟨by decide +kernel, by decide +kernel⟩, List.mem_of_getElem? (i := 1131) (by decide +kernel), List.mem_of_getElem? (i := 1415) (by decide +kernel), List.mem_of_getElem? (i := 1416) (by decide +kernel)⟩
theorem lw_p49 : lw_okq (⟨"ManorLoopsModel", "trackNow", "(II)I"⟩, 2) := ⟨⟨by decide +kernel, by decide +kernel⟩, List.mem_of_getElem? (i := 1131) (by decide +kernel), List.mem_of_getElem? (i := 1424) (by decide +kernel), List.mem_of_getElem? (i := 1425) (by decide +kernel)⟩
theorem lw_p50 : lw_okq (⟨"ManorLoopsModel", "isScene", "(I)Z"⟩, 2) := ⟨⟨by decide +kernel, by decide +kernel⟩, List.mem_of_getElem? (i := 1131) (by decide +kernel), List.mem_of_getElem? (i := 1433) (by decide +kernel), List.mem_of_getElem? (i := 1434) (by decide +kernel)⟩
theorem lw_p51 : lw_okq (⟨"ManorLoopsModel", "sceneNow", "(II)I"⟩, 2) := ⟨⟨by decide +kernel, by decide +kernel⟩, List.mem_of_getElem? (i := 1131) (by decide +kernel), List.mem_of_getElem? (i := 1437) (by decide +kernel), List.mem_of_getElem? (i := 1438) (by decide +kernel)⟩
theorem lw_p52 : lw_okq (⟨"ManorLoopsModel", "guestNow", "(II)I"⟩, 2) := ⟨⟨by decide +kernel, by decide +kernel⟩, List.mem_of_getElem? (i := 1131) (by decide +kernel), List.mem_of_getElem? (i := 1449) (by decide +kernel), List.mem_of_getElem? (i := 1450) (by decide +kernel)⟩
theorem lw_p53 : lw_okq (⟨"ManorLoopsModel", "propNow", "(II)I"⟩, 2) := ⟨⟨by decide +kernel, by decide +kernel⟩, List.mem_of_getElem? (i := 1131) (by decide +kernel), List.mem_of_getElem? (i := 1457) (by decide +kernel), List.mem_of_getElem? (i := 1458) (by decide +kernel)⟩
theorem lw_p54 : lw_okq (⟨"ManorLoopsModel", "manyNow", "(I)I"⟩, 2) := ⟨⟨by decide +kernel, by decide +kernel⟩, List.mem_of_getElem? (i := 1131) (by decide +kernel), List.mem_of_getElem? (i := 1469) (by decide +kernel), List.mem_of_getElem? (i := 1470) (by decide +kernel)⟩
theorem lw_p55 : lw_okq (⟨"ManorLoopsModel", "knowNow", "(LManorLoopsModel$House;II)I"⟩, 2) := ⟨⟨by decide +kernel, by decide +kernel⟩, List.mem_of_getElem? (i := 1131) (by decide +kernel), List.mem_of_getElem? (i := 1495) (by decide +kernel), List.mem_of_getElem? (i := 1496) (by decide +kernel)⟩
theorem lw_p56 : lw_okq (⟨"ManorLoopsModel", "cutNow", "(I)I"⟩, 2) := ⟨⟨by decide +kernel, by decide +kernel⟩, List.mem_of_getElem? (i := 1131) (by decide +kernel), List.mem_of_getElem? (i := 1510) (by decide +kernel), List.mem_of_getElem? (i := 1511) (by decide +kernel)⟩
theorem lw_p57 : lw_okq (⟨"ManorLoopsModel", "doublesNow", "(I)I"⟩, 2) := ⟨⟨by decide +kernel, by decide +kernel⟩, List.mem_of_getElem? (i := 1131) (by decide +kernel), List.mem_of_getElem? (i := 1518) (by decide +kernel), List.mem_of_getElem? (i := 1519) (by decide +kernel)⟩
def lw_privs_4 : List (MethodName × Nat) := [(⟨"ManorLoopsModel", "wayNow", "(III)I"⟩, 2), (⟨"ManorLoopsModel", "trackNow", "(II)I"⟩, 2), (⟨"ManorLoopsModel", "isScene", "(I)Z"⟩, 2), (⟨"ManorLoopsModel", "sceneNow", "(II)I"⟩, 2), (⟨"ManorLoopsModel", "guestNow", "(II)I"⟩, 2), (⟨"ManorLoopsModel", "propNow", "(II)I"⟩, 2), (⟨"ManorLoopsModel", "manyNow", "(I)I"⟩, 2), (⟨"ManorLoopsModel", "knowNow", "(LManorLoopsModel$House;II)I"⟩, 2), (⟨"ManorLoopsModel", "cutNow", "(I)I"⟩, 2), (⟨"ManorLoopsModel", "doublesNow", "(I)I"⟩, 2)]
theorem lw_r4 : ∀ q ∈ lw_privs_4, lw_okq q := List.forall_mem_cons.mpr ⟨lw_p48, List.forall_mem_cons.mpr ⟨lw_p49, List.forall_mem_cons.mpr ⟨lw_p50, List.forall_mem_cons.mpr ⟨lw_p51, List.forall_mem_cons.mpr ⟨lw_p52, List.forall_mem_cons.mpr ⟨lw_p53, List.forall_mem_cons.mpr ⟨lw_p54, List.forall_mem_cons.mpr ⟨lw_p55, List.forall_mem_cons.mpr ⟨lw_p56, List.forall_mem_cons.mpr ⟨lw_p57, fun _ h => absurd h List.not_mem_nil⟩⟩⟩⟩⟩⟩⟩⟩⟩⟩
def lw_privs : List (MethodName × Nat) := lw_privs_1 ++ (lw_privs_2 ++ (lw_privs_3 ++ (lw_privs_4)))
def lw_tbl : List Cond := k2_sels lw_privs ++ tables_1
theorem lw_privs_ok : ∀ q ∈ lw_privs, lw_okq q := by
  show ∀ q ∈ lw_privs_1 ++ (lw_privs_2 ++ (lw_privs_3 ++ (lw_privs_4))), lw_okq q
  exact List.forall_mem_append.mpr ⟨lw_r1, List.forall_mem_append.mpr ⟨lw_r2, List.forall_mem_append.mpr ⟨lw_r3, lw_r4⟩⟩⟩
/-- the streams that the claim lets the run draw from -/
abbrev lw_cs : List Choice := [Jvm.Choice.named "NaN.bits"]
theorem lw_bits : nanBits ∈ lw_cs := by first | decide | exact List.mem_cons_self | simp [lw_cs, nanBits]
-- ===== end of PART A; then your names; then what follows =====
/-! ===== BEGIN words of one list among another's, by their places ===== -/
theorem goodIn_r {big : List Cond} (ws : List Cond) (ps : List Nat) (hp : ws = ps.filterMap (fun i => big[i]?)) (h : ws.all goodWord = true) : GoodIn big ws := by
  intro w hw
  have h1 := List.all_eq_true.mp h w hw
  rw [hp] at hw
  obtain ⟨i, -, hi⟩ := List.mem_filterMap.mp hw
  have hm : w ∈ big := by first | exact List.mem_of_getElem? hi | exact List.getElem?_mem hi
  exact ⟨hm, good_of_word h1⟩
theorem goodIn_app {big a b : List Cond} (ha : GoodIn big a) (hb : GoodIn big b) : GoodIn big (a ++ b) := fun w h => (List.mem_append.mp h).elim (ha w) (hb w)
theorem goodIn_ca {big a b : List Cond} {c : Cond} (ha : GoodIn big (c :: a)) (hb : GoodIn big b) : GoodIn big (c :: (a ++ b)) := fun w h => (List.mem_cons.mp h).elim (fun e => ha w (List.mem_cons.mpr (Or.inl e))) (fun h => (List.mem_append.mp h).elim (fun h => ha w (List.mem_cons.mpr (Or.inr h))) (hb w))
theorem goodIn_sub {big ws : List Cond} (hm : ∀ w ∈ ws, w ∈ big) (h : ws.all goodWord = true) : GoodIn big ws := fun w hw => ⟨hm w hw, good_of_word (List.all_eq_true.mp h w hw)⟩
/-! ===== END ===== -/


/-! ===== BEGIN exceptions that leave a method, and their catching by the caller (launches without stack traces) ===== -/
section VXA
/-! The laws vx_back, vx_callV, vx_callS, vx_callSW, vx_throw0, vx_throwS follow proofs of the library, with one case more: JvmDerived/Free/Laws.lean (Back.of_free), Shelf42/LK1.lean (callV, callS), Shelf/KitTraced.lean (throwNew0V, throwNewS). -/
/-- where a method has thrown q: the class by its name, the cell, what was written, the world -/
def vx_T (XC : String → State → State → Prop) (st : State) (q : Addr) (t : State) (mc ms : Nat) (free : Addr → Prop) : Prop :=
  ∃ (E : String) (ce : Cell) (L : List Loc), XC E st t ∧ t.heap[q]? = some ce ∧ ce.vm = .none ∧ st.vm.findClass E = some ce.cls ∧ st.WarmedH t.vm ∧ st.sameButNew ({ t with vm := st.vm } : State) L mc ms ∧ ∀ z ∈ L, free z.base
def vx_Q (Qc : Array Value → State → Outcome → State → Prop) (XC : String → State → State → Prop) (mc ms : Nat) (free : Addr → Prop) : Array Value → State → Outcome → State → Prop := fun a st o t =>
  (Qc a st o t ∧ ∃ L, FrameEnd st o t L mc ms ∧ ∀ q ∈ L, free q.base) ∨ ∃ q, o = .threw q ∧ vx_T XC st q t mc ms free
/-- a callee that returns or throws -/
def vx_Met (l : Launch) (y : MethodName) (ws : List Cond) (rm : Room) (Pc : Array Value → State → Prop) (Qc : Array Value → State → Outcome → State → Prop) (XC : String → State → State → Prop) (mc ms : Nat) (free : Addr → Prop) : Prop :=
  MetFree l y (headSpec ws rm) Pc (fun _ _ _ _ _ => True) (vx_Q Qc XC mc ms free)
def vx_Post (XC : String → State → State → Prop) (mc ms : Nat) (free : Addr → Prop) : Pt → Array Value → Addr → Pt → Prop := fun A a q B =>
  ∃ (g : JFrame) (mk : MethodId) (t : State) (L : List Loc) (E : String) (ce : Cell), B.U.heap = t.heap ∧ B.U.vm = t.vm ∧ XC E (A.U.calling g mk a) t ∧ t.heap[q]? = some ce ∧ ce.vm = .none ∧ A.U.vm.findClass E = some ce.cls ∧ B.locs = A.locs ++ L ∧ (∀ z ∈ L, free z.base) ∧ B.cells = A.cells + mc ∧ B.slots = A.slots + ms
def vx_Back (l : Launch) (R : Room) (p : Program) (e : Env) (below : List Frame) (s : State) (sargs : Array Value) (y : MethodName) (len W9 : Nat)
    (Pre : Pt → Array Value → Prop) (Post : Pt → Array Value → Option Value → Pt → Prop) (PostX : Pt → Array Value → Addr → Pt → Prop) : Prop :=
  ∀ (m : MethodId) (meth : Method) (c : Code) (A : Pt) (g : JFrame) (ig : Instr) (mk : MethodId) (a : Array Value),
    Stand p l e R s m sargs below meth c A.U A.locs A.cells A.slots → g.method = m → g.locals.size = c.maxLocals → decode c.code g.pc = .ok (ig, len) →
    2 * g.monitorRoom + (g.stack.map fun v => v.category).sum ≤ W9 → A.U.methodNamed? y = some mk → Pre A a →
    (∃ (v : Option Value) (B : Pt), Stand p l e R s m sargs below meth c B.U B.locs B.cells B.slots ∧ Post A a v B ∧
      Steps p.tables e below (doInvoke e (A.U.setTop g) [] mk a).1 (B.U.setTop { g with pc := g.pc + len, stack := v.toList ++ g.stack })) ∨
    (∃ (q : Addr) (B : Pt), Stand p l e R s m sargs below meth c B.U B.locs B.cells B.slots ∧ PostX A a q B ∧
      Steps p.tables e below (doInvoke e (A.U.setTop g) [] mk a).1 ((B.U.setTop g).pushFrame (.throwing q)))
section Payer
variable {l : Launch} {R : Room} {p : Program} {e : Env} {below : List Frame} {s : State} {sargs : Array Value} {y : MethodName} {len W9 : Nat}
theorem vx_back {ws : List Cond} {rm : Room} {Pc : Array Value → State → Prop} {Qc : Array Value → State → Outcome → State → Prop} {XC : String → State → State → Prop} {mc ms : Nat} {free : Addr → Prop} {bytes : ByteArray} {maxL : Nat} {ret : Option FieldType}
    (hM : vx_Met l y ws rm Pc Qc XC mc ms free) (hblind : FrameBlind Pc) (hrc : rm.cells = mc) (hrs : rm.slots = ms)
    (hframes : rm.frames + 1 ≤ R.frames) (hlocals : W9 + (maxL + 11) + rm.locals ≤ R.locals)
    (hws : ∀ w ∈ ws, ∀ a' U, s.WarmedH U.vm → w.before a' U = true) (hcode : Cond.code y bytes maxL ret ∈ ws) (hinit : ∀ a' U, s.WarmedH U.vm → (Cond.initialized y.cls).before a' U = true) :
    vx_Back l R p e below s sargs y len W9 (PreOf R mc ms Pc) (PostOf Qc mc ms free) (vx_Post XC mc ms free) := by
  intro m meth c A g ig mk a X hg hsize hdg hW hn hp
  have h1 : (headSpec ws rm).pre.before a A.U = true := atoms_intro fun w hw => hws w hw _ _ X.warmed
  have h2 : (Cond.code y bytes maxL ret).before a A.U = true := hws _ hcode _ _ X.warmed
  have h3 : (Cond.initialized y.cls).before a A.U = true := hinit _ _ X.warmed
  have h4 : A.cells + (headSpec ws rm).room.cells ≤ R.cells := by rw [show (headSpec ws rm).room.cells = mc from hrc]; exact hp.1
  have h5 : A.slots + (headSpec ws rm).room.slots ≤ R.slots := by rw [show (headSpec ws rm).room.slots = ms from hrs]; exact hp.2.1
  have hPc : Pc a (A.U.calling g mk a) := hblind _ _ _ _ hp.2.2
  obtain ⟨U, Ls, c0, s0⟩ := A
  dsimp only [Pt.U, Pt.locs, Pt.cells, Pt.slots] at h1 h2 h3 h4 h5 X hn hPc ⊢
  obtain ⟨methY, cY, hmY, hcY, -, hlY, -, -, -, -⟩ := Cond.code_spec hn h2
  obtain ⟨kY, hkY, -⟩ := className_of_methodNamed hn
  have hinitY : kY.init = .initialized := Cond.initialized_spec (findClass_of_methodNamed hn) hkY h3
  have h : At U g.method c below := by rw [hg]; exact X.here
  have hlocals9 : W9 + (maxL + 11) + (headSpec ws rm).room.locals ≤ R.locals := hlocals
  have happ : (headSpec ws rm).appliesLoose y e.platform (U.calling g mk a) = true :=
    Spec.appliesLoose_calling (g := g) h hdg hn hkY hinitY
      (X.room_calling (g := g) (R' := (headSpec ws rm).room) hsize hmY hcY hframes (by rw [hlY]; omega) h4 h5) h1
  obtain ⟨mid, hmid⟩ := h.above
  have hfr : (U.setTop g).frames = (.java g :: mid) ++ below := by rw [State.frames_setTop' g h.top, hmid]; rfl
  obtain ⟨o, s₂, hsteps, -, hend, hq⟩ := Steps.callFree hM p X.admits X.cas X.clock (acts := []) hfr happ hPc trivial
  have hq' : vx_Q Qc XC mc ms free a (U.calling g mk a) o s₂ := hq
  rw [State.frames_setTop' g h.top] at hend
  obtain ⟨g₀, hg0⟩ := Option.isSome_iff_exists.mp h.top
  obtain ⟨r, hr⟩ := State.topJava?_eq_some.mp hg0
  have hr' : (({ U with heap := s₂.heap, slotsUsed := s₂.slotsUsed } : State).setVm s₂.vm).frames = .java g₀ :: r := hr
  rcases hq' with ⟨hqc, L, hfe, hL⟩ | ⟨q, rfl, E, ce, L, hx, hce, hcv, hcl, hW₂, hsm, hL⟩
  · obtain ⟨⟨v, rfl⟩, hW₂, e2, q2, q3, q4, q5, q6⟩ := id hfe
    have e3 : s₂ = ({ (U.calling g mk a).setFrames s₂.frames with heap := s₂.heap, slotsUsed := s₂.slotsUsed } : State).setVm s₂.vm := by
      have : s₂ = ({ s₂ with vm := (U.calling g mk a).vm } : State).setVm s₂.vm := rfl
      rw [e2] at this
      exact this
    obtain ⟨c₂, i₂, len₂, hc₂, hd₂, hf₂⟩ := hend
    have hW' : U.WarmedH s₂.vm := hW₂
    have hcc : c₂ = c := by
      have h1 : s₂.code? g.method = U.code? g.method := by
        rw [State.code?_eq, State.code?_eq, hW'.alike.method?]
      exact Option.some.inj (hc₂.symm.trans (h1.trans h.code))
    subst hcc
    have hlen : len₂ = len := by rw [hdg] at hd₂; cases hd₂; rfl
    subst hlen
    have hs₂ : s₂ = (({ U with heap := s₂.heap, slotsUsed := s₂.slotsUsed } : State).setVm s₂.vm).setTop { g with pc := g.pc + len₂, stack := v.toList ++ g.stack } := by
      refine e3.trans ?_
      rw [hf₂, State.calling_eq h.top, State.setFrames_setFrames, State.setTop_of_frames _ hr', hr]
      rfl
    have hsame : U.sameButNew ({ U with heap := s₂.heap, slotsUsed := s₂.slotsUsed } : State) L mc ms := by
      refine ⟨?_, q2, q3, q4, q5, q6⟩
      obtain ⟨t, ht, -⟩ := State.frames_cons hr
      show ({ U with heap := s₂.heap, slotsUsed := s₂.slotsUsed } : State) = { U.setFrames U.frames with heap := s₂.heap, slotsUsed := s₂.slotsUsed }
      rw [State.setFrames_self ht]
    subst hg
    refine Or.inl ⟨v, ⟨(({ U with heap := s₂.heap, slotsUsed := s₂.slotsUsed } : State).setVm s₂.vm), Ls ++ L, c0 + mc, s0 + ms⟩,
      ⟨X.admits, X.cas, X.clock, X.frames, X.room, X.hears, X.method, X.code, (X.here.setHeapUsed s₂.heap s₂.slotsUsed).setVm hW'.alike, X.tail, State.WarmedH.trans X.warmed hW', X.limits, X.bytes, X.same.trans (hsame.setVm s.vm)⟩,
      ⟨g, mk, s₂, L, rfl, rfl, hqc, rfl, hL, rfl, rfl⟩, ?_⟩
    show Steps p.tables e below _ ((({ U with heap := s₂.heap, slotsUsed := s₂.slotsUsed } : State).setVm s₂.vm).setTop { g with pc := g.pc + len₂, stack := v.toList ++ g.stack })
    rw [← hs₂]
    exact hsteps
  · obtain ⟨e2, q2, q3, q4, q5, q6⟩ := id hsm
    have e3 : s₂ = ({ (U.calling g mk a).setFrames s₂.frames with heap := s₂.heap, slotsUsed := s₂.slotsUsed } : State).setVm s₂.vm := by
      have : s₂ = ({ s₂ with vm := (U.calling g mk a).vm } : State).setVm s₂.vm := rfl
      rw [e2] at this
      exact this
    have hf₂ : s₂.frames = .throwing q :: .java g :: U.frames.tail := hend
    have hW' : U.WarmedH s₂.vm := hW₂
    have hs₂ : s₂ = ((({ U with heap := s₂.heap, slotsUsed := s₂.slotsUsed } : State).setVm s₂.vm).setTop g).pushFrame (.throwing q) := by
      refine e3.trans ?_
      rw [hf₂, State.calling_eq h.top, State.setFrames_setFrames, State.pushFrame, State.frames_setTop _ hr', State.setTop_of_frames _ hr', State.setFrames_setFrames, hr]
      rfl
    have hsame : U.sameButNew ({ U with heap := s₂.heap, slotsUsed := s₂.slotsUsed } : State) L mc ms := by
      refine ⟨?_, q2, q3, q4, q5, q6⟩
      obtain ⟨t, ht, -⟩ := State.frames_cons hr
      show ({ U with heap := s₂.heap, slotsUsed := s₂.slotsUsed } : State) = { U.setFrames U.frames with heap := s₂.heap, slotsUsed := s₂.slotsUsed }
      rw [State.setFrames_self ht]
    subst hg
    refine Or.inr ⟨q, ⟨(({ U with heap := s₂.heap, slotsUsed := s₂.slotsUsed } : State).setVm s₂.vm), Ls ++ L, c0 + mc, s0 + ms⟩,
      ⟨X.admits, X.cas, X.clock, X.frames, X.room, X.hears, X.method, X.code, (X.here.setHeapUsed s₂.heap s₂.slotsUsed).setVm hW'.alike, X.tail, State.WarmedH.trans X.warmed hW', X.limits, X.bytes, X.same.trans (hsame.setVm s.vm)⟩,
      ⟨g, mk, s₂, L, E, ce, rfl, rfl, hx, hce, hcv, hcl, rfl, hL, rfl, rfl⟩, ?_⟩
    show Steps p.tables e below _ (((({ U with heap := s₂.heap, slotsUsed := s₂.slotsUsed } : State).setVm s₂.vm).setTop g).pushFrame (.throwing q))
    rw [← hs₂]
    exact hsteps
end Payer
section Calls
variable {p : Program} {l : Launch} {e : Env} {R : Room} {s : State} {m : MethodId} {args : Array Value} {below : List Frame} {meth : Method} {c : Code} {T : State} {locs : List Loc} {cells slots : Nat}
theorem vx_callV (X : Stand p l e R s m args below meth c T locs cells slots) (hexec : p.tables.exec = Jvm.exec) {own C : String} {index : Nat} {y : MethodName} {bytes : ByteArray} {maxL : Nat} {ret : Option FieldType}
    (hown : s.vm.findClass own = some m.cls) (hlink : (Cond.methodLink own index y).before args s = true) (hinst : (Cond.instanceMethod y).before args s = true) (hsel : (Cond.selects C y y).before args s = true)
    (hcode : (Cond.code y bytes maxL ret).before args s = true) (hy : y.cls ≠ "java/lang/invoke/MethodHandle" ∧ y.cls ≠ "java/lang/invoke/VarHandle")
    {W9 : Nat} {Pre : Pt → Array Value → Prop} {Post : Pt → Array Value → Option Value → Pt → Prop} {PostX : Pt → Array Value → Addr → Pt → Prop} (hK : vx_Back l R p e below s args y 3 W9 Pre Post PostX)
    {b : Addr} {cellB : Cell} (hcell : T.heap[b]? = some cellB) (hobj : cellB.vm.isStatics = false) (hcls : s.vm.findClass C = some cellB.cls)
    {g : JFrame} (hg : g.method = m) (hsize : g.locals.size = c.maxLocals) {argsL rest : List Value} (hlen : ∀ sig, parseMethodDescriptor y.desc = some sig → argsL.length = sig.parameters.length)
    (hstack : g.stack = argsL.reverse ++ .ref b :: rest) (hW : 2 * g.monitorRoom + (rest.map fun v => v.category).sum ≤ W9) (hdg : decode c.code g.pc = .ok (.invokevirtual index, 3))
    (hpre : ∀ vm₁, s.WarmedH vm₁ → Pre ⟨T.setVm vm₁, locs, cells, slots⟩ (Value.ref b :: argsL).toArray) :
    (∃ (v : Option Value) (vm₁ : Vm) (B : Pt), s.WarmedH vm₁ ∧ Stand p l e R s m args below meth c B.U B.locs B.cells B.slots ∧ Post ⟨T.setVm vm₁, locs, cells, slots⟩ (Value.ref b :: argsL).toArray v B ∧
      ∀ target, Steps p.tables e below (B.U.setTop { g with pc := g.pc + 3, stack := v.toList ++ rest }) target → Steps p.tables e below (T.setTop g) target) ∨
    (∃ (q : Addr) (vm₁ : Vm) (B : Pt), s.WarmedH vm₁ ∧ Stand p l e R s m args below meth c B.U B.locs B.cells B.slots ∧ PostX ⟨T.setVm vm₁, locs, cells, slots⟩ (Value.ref b :: argsL).toArray q B ∧
      Steps p.tables e below (T.setTop g) ((B.U.setTop { g with stack := rest }).pushFrame (.throwing q))) := by
  obtain ⟨mk, methM, hnamed, hmethM, hstM, habM⟩ := Cond.instanceMethod_spec hinst
  obtain ⟨methM', cM, hmethM', -, -, -, -, -, -, hsigM⟩ := Cond.code_spec hnamed hcode
  cases hmethM.symm.trans hmethM'
  obtain ⟨c2, r2, m2, q1, q2, q3, q4, kP, hkP, hkPi⟩ := Cond.selects_spec hsel
  cases hcls.symm.trans q1
  cases (State.methodFound?_of_named hnamed hy).symm.trans q2
  cases hnamed.symm.trans q3
  have hselP : selectMethod e.platform s.vm cellB.cls mk = .method mk := by rw [Launch.admits_selectMethod X.admits]; exact q4
  obtain ⟨vm₁, X₁, hstep₁⟩ := X.invokevirtual hexec hown hlink hnamed hmethM hstM hkP hkPi hy (a := b) (cell := cellB) hcell
    (fun z h => by rw [h] at hobj; cases hobj) hselP hmethM habM hkP hkPi (g := g) hg (argsL := argsL) (rest := rest) (hlen _ hsigM) hstack hdg
  rcases hK m meth c ⟨T.setVm vm₁, locs, cells, slots⟩ { g with stack := rest } (.invokevirtual index) mk (Value.ref b :: argsL).toArray X₁ hg hsize hdg hW (X₁.named hnamed) (hpre vm₁ X₁.warmed) with ⟨v, B, X', hpost, hsteps⟩ | ⟨q, B, X', hpost, hsteps⟩
  · exact Or.inl ⟨v, vm₁, B, X₁.warmed, X', hpost, fun target h => hstep₁ _ fun acts => by rw [doInvoke_state]; exact hsteps.trans h⟩
  · exact Or.inr ⟨q, vm₁, B, X₁.warmed, X', hpost, hstep₁ _ fun acts => by rw [doInvoke_state]; exact hsteps⟩
theorem vx_callS (X : Stand p l e R s m args below meth c T locs cells slots) (hexec : p.tables.exec = Jvm.exec) {own : String} {index : Nat} {y : MethodName} {bytes : ByteArray} {maxL : Nat} {ret : Option FieldType}
    (hown : s.vm.findClass own = some m.cls) (hlink : (Cond.methodLink own index y).before args s = true) (hstat : (Cond.static y).before args s = true) (hinit : (Cond.initialized y.cls).before args s = true)
    (hcode : (Cond.code y bytes maxL ret).before args s = true) (hy : y.cls ≠ "java/lang/invoke/MethodHandle" ∧ y.cls ≠ "java/lang/invoke/VarHandle")
    {W9 : Nat} {Pre : Pt → Array Value → Prop} {Post : Pt → Array Value → Option Value → Pt → Prop} {PostX : Pt → Array Value → Addr → Pt → Prop} (hK : vx_Back l R p e below s args y 3 W9 Pre Post PostX)
    {g : JFrame} (hg : g.method = m) (hsize : g.locals.size = c.maxLocals) {argsL rest : List Value} (hlen : ∀ sig, parseMethodDescriptor y.desc = some sig → argsL.length = sig.parameters.length)
    (hstack : g.stack = argsL.reverse ++ rest) (hW : 2 * g.monitorRoom + (rest.map fun v => v.category).sum ≤ W9) (hdg : decode c.code g.pc = .ok (.invokestatic index, 3))
    (hpre : ∀ vm₁, s.WarmedH vm₁ → Pre ⟨T.setVm vm₁, locs, cells, slots⟩ argsL.toArray) :
    (∃ (v : Option Value) (vm₁ : Vm) (B : Pt), s.WarmedH vm₁ ∧ Stand p l e R s m args below meth c B.U B.locs B.cells B.slots ∧ Post ⟨T.setVm vm₁, locs, cells, slots⟩ argsL.toArray v B ∧
      ∀ target, Steps p.tables e below (B.U.setTop { g with pc := g.pc + 3, stack := v.toList ++ rest }) target → Steps p.tables e below (T.setTop g) target) ∨
    (∃ (q : Addr) (vm₁ : Vm) (B : Pt), s.WarmedH vm₁ ∧ Stand p l e R s m args below meth c B.U B.locs B.cells B.slots ∧ PostX ⟨T.setVm vm₁, locs, cells, slots⟩ argsL.toArray q B ∧
      Steps p.tables e below (T.setTop g) ((B.U.setTop { g with stack := rest }).pushFrame (.throwing q))) := by
  obtain ⟨mk, hnamed⟩ := Cond.code_named hcode
  obtain ⟨methM, cM, hmethM, -, -, -, -, -, -, hsigM⟩ := Cond.code_spec hnamed hcode
  have hstatic : methM.isStatic = true := Cond.static_spec hnamed hmethM hstat
  obtain ⟨kP, hkP, -⟩ := className_of_methodNamed hnamed
  have hinitP : kP.init = .initialized := Cond.initialized_spec (findClass_of_methodNamed hnamed) hkP hinit
  obtain ⟨vm₁, X₁, hstep₁⟩ := X.invokestatic hexec hown hlink hnamed hmethM hstatic hkP hinitP hy (g := g) hg (argsL := argsL) (rest := rest) (hlen _ hsigM) hstack hdg
  rcases hK m meth c ⟨T.setVm vm₁, locs, cells, slots⟩ { g with stack := rest } (.invokestatic index) mk argsL.toArray X₁ hg hsize hdg hW (X₁.named hnamed) (hpre vm₁ X₁.warmed) with ⟨v, B, X', hpost, hsteps⟩ | ⟨q, B, X', hpost, hsteps⟩
  · exact Or.inl ⟨v, vm₁, B, X₁.warmed, X', hpost, fun target h => hstep₁ _ fun acts => by rw [doInvoke_state]; exact hsteps.trans h⟩
  · exact Or.inr ⟨q, vm₁, B, X₁.warmed, X', hpost, hstep₁ _ fun acts => by rw [doInvoke_state]; exact hsteps⟩
end Calls
theorem vx_cls {s : State} {T : State} {vm₁ : Vm} {E : String} {k : ClassId} (hW : s.WarmedH vm₁) (h : (T.setVm vm₁).vm.findClass E = some k) : s.vm.findClass E = some k := by
  have h1 : vm₁.findClass E = some k := h
  rw [hW.alike.findClass] at h1
  exact h1
/-- the method's frame g, with q thrown over it -/
def vx_W (p : Program) (l : Launch) (e : Env) (R : Room) (s : State) (m : MethodId) (args : Array Value) (below : List Frame) (meth : Method) (c : Code) (H : Heap) (locs : List Loc) (cells slots : Nat) (Q : State → Prop) (g : JFrame) (q : Addr) : Prop :=
  ∀ T : State, T.heap = H → Stand p l e R s m args below meth c T locs cells slots → ∃ t, Steps p.tables e below ((T.setTop g).pushFrame (.throwing q)) t ∧ Q t
def vx_Run (p : Program) (l : Launch) (e : Env) (R : Room) (s : State) (m : MethodId) (args : Array Value) (below : List Frame) (meth : Method) (c : Code) (H : Heap) (locs : List Loc) (cells slots mc ms : Nat) (g : JFrame) (rest : List Value) (Qa : State → Outcome → State → Prop) (XC : String → State → State → Prop) (free : Addr → Prop) : Prop :=
  ∀ T : State, T.heap = H → Stand p l e R s m args below meth c T locs cells slots →
    (∃ (v : Option Value) (st₀ t T' : State) (L : List Loc), st₀.heap = H ∧ Stand p l e R s m args below meth c T' (locs ++ L) (cells + mc) (slots + ms) ∧ (∀ q ∈ L, free q.base) ∧ T'.heap = t.heap ∧ T'.vm = t.vm ∧ Qa st₀ (.returned v) t ∧
      Goes p e below T g T' { g with pc := g.pc + 3, stack := v.toList ++ rest }) ∨
    (∃ (q : Addr) (st₀ t T' : State) (L : List Loc) (E : String) (ce : Cell), st₀.heap = H ∧ Stand p l e R s m args below meth c T' (locs ++ L) (cells + mc) (slots + ms) ∧ (∀ z ∈ L, free z.base) ∧ T'.heap = t.heap ∧ T'.vm = t.vm ∧ XC E st₀ t ∧ t.heap[q]? = some ce ∧ ce.vm = .none ∧ s.vm.findClass E = some ce.cls ∧
      Steps p.tables e below (T.setTop g) ((T'.setTop { g with stack := rest }).pushFrame (.throwing q)))
def vx_X {S : Type} (px : S → Prop) (B : String → S → State → Prop) (A : Nat → Prop) : String → State → State → Prop := fun E st t => ∃ u : S, px u ∧ B E u t ∧ va_F A st t
section Runs
variable {p : Program} {l : Launch} {e : Env} {R : Room} {s : State} {m : MethodId} {args : Array Value} {below : List Frame} {meth : Method} {c : Code} {H : Heap} {locs : List Loc} {cells slots : Nat}
variable {y : MethodName} {bytes cc : ByteArray} {maxL nL mc ms n index : Nat} {ret : Option FieldType} {ws : List Cond} {rm : Room} {Pc : Array Value → State → Prop} {Qc : Array Value → State → Outcome → State → Prop} {XC : String → State → State → Prop} {free : Addr → Prop} {Ts : List Cond} {own C : String} {b : Addr} {As rest : List Value} {g : JFrame}
theorem vx_callBack (cb : CallB R s args own index y bytes maxL ret ws rm mc ms n) (hM : vx_Met l y ws rm Pc Qc XC mc ms free) (hbl : FrameBlind Pc) : vx_Back l R p e below s args y 3 8 (PreOf R mc ms Pc) (PostOf Qc mc ms free) (vx_Post XC mc ms free) := by
  obtain ⟨hrc, hrs, hfr, hlo, hws, hcw, -, hini, -⟩ := cb
  exact vx_back (bytes := bytes) (maxL := maxL) (ret := ret) hM hbl hrc hrs hfr hlo hws hcw (fun a' U hW => word_at hW (Or.inl (by first | rfl | simp [Cond.onTables, Cond.keeps, Cond.steady])) hini)
theorem vx_runV (S : CallFix p m c cc nL s args Ts own) (hM : vx_Met l y ws rm Pc Qc XC mc ms free) (cw : CallW R s args own C index y bytes maxL ret ws rm mc ms n) (hp : PreV s H C b Pc As)
    (hg : g.method = m) (hn : As.length = n) (hsize : g.locals.size = nL) (hstack : g.stack = As.reverse ++ .ref b :: rest) (hW : 2 * g.monitorRoom + (rest.map fun v => v.category).sum ≤ 8) (hdg : decode cc g.pc = .ok (.invokevirtual index, 3)) (hf : cells + mc ≤ R.cells ∧ slots + ms ≤ R.slots) :
    vx_Run p l e R s m args below meth c H locs cells slots mc ms g rest (Qc (Value.ref b :: As).toArray) XC free := by
  have hK : vx_Back l R p e below s args y 3 8 (PreOf R mc ms Pc) (PostOf Qc mc ms free) (vx_Post XC mc ms free) := vx_callBack cw.1 hM hp.1
  obtain ⟨⟨-, -, -, -, -, -, hcode, -, hy, hlen, hl⟩, hin, hse⟩ := cw
  obtain ⟨hx, hb, hml, ho, -⟩ := S
  obtain ⟨-, ⟨cellB, hcB, hoB, hclB⟩, hPc⟩ := hp
  intro T hT X
  rcases vx_callV X hx (C := C) (bytes := bytes) (maxL := maxL) (ret := ret) ho hl hin hse hcode hy hK (by rw [hT]; exact hcB) hoB hclB hg (hsize.trans hml.symm) (argsL := As) (rest := rest) (fun sig h => hn.trans (hlen sig h)) hstack hW (by rw [hb]; exact hdg)
    (fun vm₁ hW₁ => ⟨hf.1, hf.2, hPc (T.setVm vm₁) hT hW₁⟩) with ⟨v, vm₁, ⟨U', l2, c2, s2⟩, hW₁, X', ⟨g', mk, t, L, e1, e2, hq, h1, hL, h2, h3⟩, st⟩ | ⟨q, vm₁, ⟨U', l2, c2, s2⟩, hW₁, X', ⟨g', mk, t, L, E, ce, e1, e2, hq, hce, hcv, hcl, h1, hL, h2, h3⟩, st⟩
  · dsimp only [Pt.U, Pt.locs, Pt.cells, Pt.slots] at X' e1 e2 h1 h2 h3 st
    subst h1; subst h2; subst h3
    exact Or.inl ⟨v, (T.setVm vm₁).calling g' mk (Value.ref b :: As).toArray, t, U', L, hT, X', hL, e1, e2, hq, st⟩
  · dsimp only [Pt.U, Pt.locs, Pt.cells, Pt.slots] at X' e1 e2 h1 h2 h3 st hcl
    subst h1; subst h2; subst h3
    exact Or.inr ⟨q, (T.setVm vm₁).calling g' mk (Value.ref b :: As).toArray, t, U', L, E, ce, hT, X', hL, e1, e2, hq, hce, hcv, vx_cls hW₁ hcl, st⟩
theorem vx_runS (S : CallFix p m c cc nL s args Ts own) (hM : vx_Met l y ws rm Pc Qc XC mc ms free) (cw : CallB R s args own index y bytes maxL ret ws rm mc ms n ∧ (Cond.static y).before args s = true) (hp : PreS s H Pc As)
    (hg : g.method = m) (hn : As.length = n) (hsize : g.locals.size = nL) (hstack : g.stack = As.reverse ++ rest) (hW : 2 * g.monitorRoom + (rest.map fun v => v.category).sum ≤ 8) (hdg : decode cc g.pc = .ok (.invokestatic index, 3)) (hf : cells + mc ≤ R.cells ∧ slots + ms ≤ R.slots) :
    vx_Run p l e R s m args below meth c H locs cells slots mc ms g rest (Qc As.toArray) XC free := by
  have hK : vx_Back l R p e below s args y 3 8 (PreOf R mc ms Pc) (PostOf Qc mc ms free) (vx_Post XC mc ms free) := vx_callBack cw.1 hM hp.1
  obtain ⟨⟨-, -, -, -, -, -, hcode, hini, hy, hlen, hl⟩, hstt⟩ := cw
  obtain ⟨hx, hb, hml, ho, -⟩ := S
  intro T hT X
  rcases vx_callS X hx (bytes := bytes) (maxL := maxL) (ret := ret) ho hl hstt hini hcode hy hK hg (hsize.trans hml.symm) (argsL := As) (rest := rest) (fun sig h => hn.trans (hlen sig h)) hstack hW (by rw [hb]; exact hdg)
    (fun vm₁ hW₁ => ⟨hf.1, hf.2, hp.2 (T.setVm vm₁) hT hW₁⟩) with ⟨v, vm₁, ⟨U', l2, c2, s2⟩, hW₁, X', ⟨g', mk, t, L, e1, e2, hq, h1, hL, h2, h3⟩, st⟩ | ⟨q, vm₁, ⟨U', l2, c2, s2⟩, hW₁, X', ⟨g', mk, t, L, E, ce, e1, e2, hq, hce, hcv, hcl, h1, hL, h2, h3⟩, st⟩
  · dsimp only [Pt.U, Pt.locs, Pt.cells, Pt.slots] at X' e1 e2 h1 h2 h3 st
    subst h1; subst h2; subst h3
    exact Or.inl ⟨v, (T.setVm vm₁).calling g' mk As.toArray, t, U', L, hT, X', hL, e1, e2, hq, st⟩
  · dsimp only [Pt.U, Pt.locs, Pt.cells, Pt.slots] at X' e1 e2 h1 h2 h3 st hcl
    subst h1; subst h2; subst h3
    exact Or.inr ⟨q, (T.setVm vm₁).calling g' mk As.toArray, t, U', L, E, ce, hT, X', hL, e1, e2, hq, hce, hcv, vx_cls hW₁ hcl, st⟩
end Runs
section Rows
variable {p : Program} {l : Launch} {e : Env} {R : Room} {s : State} {m : MethodId} {args : Array Value} {below : List Frame} {meth : Method} {c : Code} {H : Heap} {locs : List Loc} {cells slots : Nat} {Q : State → Prop}
variable {mc ms : Nat} {free : Addr → Prop} {A0 A1 : Nat → Prop} {H0 : Heap} {a : Array Value} {pc : Nat} {ls : Array Slot} {st0 rest : List Value}
theorem vx_keep {st₀ t T' : State} {L : List Loc} (h0 : st₀.heap = H) (e1 : T'.heap = t.heap) (hS : va_S A0 H0 H locs) (hA : ∀ q, q < H.size → A1 q → A0 q) (hf : ∀ q, free q → A0 q) (hL : ∀ q ∈ L, free q.base) (hF : va_F A1 st₀ t) :
    H.size ≤ T'.heap.size ∧ (∀ q : Nat, q < H.size → ¬ A1 q → T'.heap[q]? = H[q]?) ∧ va_S A0 H0 T'.heap (locs ++ L) := by
  obtain ⟨hz, hk⟩ := hF
  rw [h0] at hz hk
  exact ⟨by rw [e1]; exact hz, fun q h1 h2 => by rw [e1]; exact hk q h1 h2,
    ⟨Nat.le_trans hS.1 (by rw [e1]; exact hz), fun q h1 h2 => by rw [e1, hk q (Nat.lt_of_lt_of_le h1 hS.1) (fun z => h2 (hA q (Nat.lt_of_lt_of_le h1 hS.1) z))]; exact hS.2.1 q h1 h2, fun q hq => by
      rcases List.mem_append.mp hq with h | h
      · exact hS.2.2 q h
      · exact hf _ (hL q h)⟩⟩
theorem vx_calli {S SX : Type} {post : Int32 → S → Prop} {px : SX → Prop} {B : S → State → Prop} {BX : String → SX → State → Prop} {AX : Nat → Prop} (hr : vx_Run p l e R s m args below meth c H locs cells slots mc ms (F0 m pc ls st0) rest (va_Qi post B A1 a) (vx_X px BX AX) free) (hS : va_S A0 H0 H locs) (hA : ∀ q, q < H.size → A1 q → A0 q) (hf : ∀ q, free q → A0 q) (hAX : ∀ q, q < H.size → AX q → A0 q)
    (kx : ∀ (E : String) (ce : Cell) (q9 : Addr) (u : SX) (t : State) (H1 : Heap) (locs1 : List Loc), t.heap = H1 → s.vm.Alike t.vm → px u → BX E u t → H.size ≤ H1.size → (∀ q : Nat, q < H.size → ¬ AX q → H1[q]? = H[q]?) → va_S A0 H0 H1 locs1 → H1[q9]? = some ce → ce.vm = .none → s.vm.findClass E = some ce.cls → vx_W p l e R s m args below meth c H1 locs1 (cells + mc) (slots + ms) Q (F0 m pc ls rest) q9)
    (kk : ∀ (r : Int32) (u : S) (t : State) (H1 : Heap) (locs1 : List Loc), t.heap = H1 → s.vm.Alike t.vm → post r u → B u t → H.size ≤ H1.size → (∀ q : Nat, q < H.size → ¬ A1 q → H1[q]? = H[q]?) → va_S A0 H0 H1 locs1 → W p l e R s m args below meth c H1 locs1 (cells + mc) (slots + ms) Q (F0 m (pc + 3) ls (.int r :: rest))) : W p l e R s m args below meth c H locs cells slots Q (F0 m pc ls st0) := by
  intro T hT X
  rcases hr T hT X with ⟨v, st₀, t, T', L, h0, X', hL, e1, e2, ⟨⟨r, u, hv, hp, hb⟩, hF⟩, st⟩ | ⟨q, st₀, t, T', L, E, ce, h0, X', hL, e1, e2, ⟨u, hp, hb, hF⟩, hce, hcv, hcl, st⟩
  · cases hv
    obtain ⟨k1, k2, k3⟩ := vx_keep h0 e1 hS hA hf hL hF
    obtain ⟨t2, a1, b1⟩ := kk r u t T'.heap (locs ++ L) e1.symm (by rw [← e2]; exact X'.warmed.alike) hp hb k1 k2 k3 T' rfl X'
    exact ⟨t2, st t2 a1, b1⟩
  · obtain ⟨k1, k2, k3⟩ := vx_keep h0 e1 hS hAX hf hL hF
    obtain ⟨t2, a1, b1⟩ := kx E ce q u t T'.heap (locs ++ L) e1.symm (by rw [← e2]; exact X'.warmed.alike) hp hb k1 k2 k3 (by rw [e1]; exact hce) hcv hcl T' rfl X'
    exact ⟨t2, st.trans a1, b1⟩
theorem vx_calll {S SX : Type} {post : Int64 → S → Prop} {px : SX → Prop} {B : S → State → Prop} {BX : String → SX → State → Prop} {AX : Nat → Prop} (hr : vx_Run p l e R s m args below meth c H locs cells slots mc ms (F0 m pc ls st0) rest (va_Ql post B A1 a) (vx_X px BX AX) free) (hS : va_S A0 H0 H locs) (hA : ∀ q, q < H.size → A1 q → A0 q) (hf : ∀ q, free q → A0 q) (hAX : ∀ q, q < H.size → AX q → A0 q)
    (kx : ∀ (E : String) (ce : Cell) (q9 : Addr) (u : SX) (t : State) (H1 : Heap) (locs1 : List Loc), t.heap = H1 → s.vm.Alike t.vm → px u → BX E u t → H.size ≤ H1.size → (∀ q : Nat, q < H.size → ¬ AX q → H1[q]? = H[q]?) → va_S A0 H0 H1 locs1 → H1[q9]? = some ce → ce.vm = .none → s.vm.findClass E = some ce.cls → vx_W p l e R s m args below meth c H1 locs1 (cells + mc) (slots + ms) Q (F0 m pc ls rest) q9)
    (kk : ∀ (r : Int64) (u : S) (t : State) (H1 : Heap) (locs1 : List Loc), t.heap = H1 → s.vm.Alike t.vm → post r u → B u t → H.size ≤ H1.size → (∀ q : Nat, q < H.size → ¬ A1 q → H1[q]? = H[q]?) → va_S A0 H0 H1 locs1 → W p l e R s m args below meth c H1 locs1 (cells + mc) (slots + ms) Q (F0 m (pc + 3) ls (.long r :: rest))) : W p l e R s m args below meth c H locs cells slots Q (F0 m pc ls st0) := by
  intro T hT X
  rcases hr T hT X with ⟨v, st₀, t, T', L, h0, X', hL, e1, e2, ⟨⟨r, u, hv, hp, hb⟩, hF⟩, st⟩ | ⟨q, st₀, t, T', L, E, ce, h0, X', hL, e1, e2, ⟨u, hp, hb, hF⟩, hce, hcv, hcl, st⟩
  · cases hv
    obtain ⟨k1, k2, k3⟩ := vx_keep h0 e1 hS hA hf hL hF
    obtain ⟨t2, a1, b1⟩ := kk r u t T'.heap (locs ++ L) e1.symm (by rw [← e2]; exact X'.warmed.alike) hp hb k1 k2 k3 T' rfl X'
    exact ⟨t2, st t2 a1, b1⟩
  · obtain ⟨k1, k2, k3⟩ := vx_keep h0 e1 hS hAX hf hL hF
    obtain ⟨t2, a1, b1⟩ := kx E ce q u t T'.heap (locs ++ L) e1.symm (by rw [← e2]; exact X'.warmed.alike) hp hb k1 k2 k3 (by rw [e1]; exact hce) hcv hcl T' rfl X'
    exact ⟨t2, st.trans a1, b1⟩
theorem vx_callf {S SX : Type} {post : UInt32 → S → Prop} {px : SX → Prop} {B : S → State → Prop} {BX : String → SX → State → Prop} {AX : Nat → Prop} (hr : vx_Run p l e R s m args below meth c H locs cells slots mc ms (F0 m pc ls st0) rest (va_Qf post B A1 a) (vx_X px BX AX) free) (hS : va_S A0 H0 H locs) (hA : ∀ q, q < H.size → A1 q → A0 q) (hf : ∀ q, free q → A0 q) (hAX : ∀ q, q < H.size → AX q → A0 q)
    (kx : ∀ (E : String) (ce : Cell) (q9 : Addr) (u : SX) (t : State) (H1 : Heap) (locs1 : List Loc), t.heap = H1 → s.vm.Alike t.vm → px u → BX E u t → H.size ≤ H1.size → (∀ q : Nat, q < H.size → ¬ AX q → H1[q]? = H[q]?) → va_S A0 H0 H1 locs1 → H1[q9]? = some ce → ce.vm = .none → s.vm.findClass E = some ce.cls → vx_W p l e R s m args below meth c H1 locs1 (cells + mc) (slots + ms) Q (F0 m pc ls rest) q9)
    (kk : ∀ (r : UInt32) (u : S) (t : State) (H1 : Heap) (locs1 : List Loc), t.heap = H1 → s.vm.Alike t.vm → post r u → B u t → H.size ≤ H1.size → (∀ q : Nat, q < H.size → ¬ A1 q → H1[q]? = H[q]?) → va_S A0 H0 H1 locs1 → W p l e R s m args below meth c H1 locs1 (cells + mc) (slots + ms) Q (F0 m (pc + 3) ls (.float r :: rest))) : W p l e R s m args below meth c H locs cells slots Q (F0 m pc ls st0) := by
  intro T hT X
  rcases hr T hT X with ⟨v, st₀, t, T', L, h0, X', hL, e1, e2, ⟨⟨r, u, hv, hp, hb⟩, hF⟩, st⟩ | ⟨q, st₀, t, T', L, E, ce, h0, X', hL, e1, e2, ⟨u, hp, hb, hF⟩, hce, hcv, hcl, st⟩
  · cases hv
    obtain ⟨k1, k2, k3⟩ := vx_keep h0 e1 hS hA hf hL hF
    obtain ⟨t2, a1, b1⟩ := kk r u t T'.heap (locs ++ L) e1.symm (by rw [← e2]; exact X'.warmed.alike) hp hb k1 k2 k3 T' rfl X'
    exact ⟨t2, st t2 a1, b1⟩
  · obtain ⟨k1, k2, k3⟩ := vx_keep h0 e1 hS hAX hf hL hF
    obtain ⟨t2, a1, b1⟩ := kx E ce q u t T'.heap (locs ++ L) e1.symm (by rw [← e2]; exact X'.warmed.alike) hp hb k1 k2 k3 (by rw [e1]; exact hce) hcv hcl T' rfl X'
    exact ⟨t2, st.trans a1, b1⟩
theorem vx_calld {S SX : Type} {post : UInt64 → S → Prop} {px : SX → Prop} {B : S → State → Prop} {BX : String → SX → State → Prop} {AX : Nat → Prop} (hr : vx_Run p l e R s m args below meth c H locs cells slots mc ms (F0 m pc ls st0) rest (va_Qd post B A1 a) (vx_X px BX AX) free) (hS : va_S A0 H0 H locs) (hA : ∀ q, q < H.size → A1 q → A0 q) (hf : ∀ q, free q → A0 q) (hAX : ∀ q, q < H.size → AX q → A0 q)
    (kx : ∀ (E : String) (ce : Cell) (q9 : Addr) (u : SX) (t : State) (H1 : Heap) (locs1 : List Loc), t.heap = H1 → s.vm.Alike t.vm → px u → BX E u t → H.size ≤ H1.size → (∀ q : Nat, q < H.size → ¬ AX q → H1[q]? = H[q]?) → va_S A0 H0 H1 locs1 → H1[q9]? = some ce → ce.vm = .none → s.vm.findClass E = some ce.cls → vx_W p l e R s m args below meth c H1 locs1 (cells + mc) (slots + ms) Q (F0 m pc ls rest) q9)
    (kk : ∀ (r : UInt64) (u : S) (t : State) (H1 : Heap) (locs1 : List Loc), t.heap = H1 → s.vm.Alike t.vm → post r u → B u t → H.size ≤ H1.size → (∀ q : Nat, q < H.size → ¬ A1 q → H1[q]? = H[q]?) → va_S A0 H0 H1 locs1 → W p l e R s m args below meth c H1 locs1 (cells + mc) (slots + ms) Q (F0 m (pc + 3) ls (.double r :: rest))) : W p l e R s m args below meth c H locs cells slots Q (F0 m pc ls st0) := by
  intro T hT X
  rcases hr T hT X with ⟨v, st₀, t, T', L, h0, X', hL, e1, e2, ⟨⟨r, u, hv, hp, hb⟩, hF⟩, st⟩ | ⟨q, st₀, t, T', L, E, ce, h0, X', hL, e1, e2, ⟨u, hp, hb, hF⟩, hce, hcv, hcl, st⟩
  · cases hv
    obtain ⟨k1, k2, k3⟩ := vx_keep h0 e1 hS hA hf hL hF
    obtain ⟨t2, a1, b1⟩ := kk r u t T'.heap (locs ++ L) e1.symm (by rw [← e2]; exact X'.warmed.alike) hp hb k1 k2 k3 T' rfl X'
    exact ⟨t2, st t2 a1, b1⟩
  · obtain ⟨k1, k2, k3⟩ := vx_keep h0 e1 hS hAX hf hL hF
    obtain ⟨t2, a1, b1⟩ := kx E ce q u t T'.heap (locs ++ L) e1.symm (by rw [← e2]; exact X'.warmed.alike) hp hb k1 k2 k3 (by rw [e1]; exact hce) hcv hcl T' rfl X'
    exact ⟨t2, st.trans a1, b1⟩
theorem vx_callv {S SX : Type} {post : S → Prop} {px : SX → Prop} {B : S → State → Prop} {BX : String → SX → State → Prop} {AX : Nat → Prop} (hr : vx_Run p l e R s m args below meth c H locs cells slots mc ms (F0 m pc ls st0) rest (va_Qv post B A1 a) (vx_X px BX AX) free) (hS : va_S A0 H0 H locs) (hA : ∀ q, q < H.size → A1 q → A0 q) (hf : ∀ q, free q → A0 q) (hAX : ∀ q, q < H.size → AX q → A0 q)
    (kx : ∀ (E : String) (ce : Cell) (q9 : Addr) (u : SX) (t : State) (H1 : Heap) (locs1 : List Loc), t.heap = H1 → s.vm.Alike t.vm → px u → BX E u t → H.size ≤ H1.size → (∀ q : Nat, q < H.size → ¬ AX q → H1[q]? = H[q]?) → va_S A0 H0 H1 locs1 → H1[q9]? = some ce → ce.vm = .none → s.vm.findClass E = some ce.cls → vx_W p l e R s m args below meth c H1 locs1 (cells + mc) (slots + ms) Q (F0 m pc ls rest) q9)
    (kk : ∀ (u : S) (t : State) (H1 : Heap) (locs1 : List Loc), t.heap = H1 → s.vm.Alike t.vm → post u → B u t → H.size ≤ H1.size → (∀ q : Nat, q < H.size → ¬ A1 q → H1[q]? = H[q]?) → va_S A0 H0 H1 locs1 → W p l e R s m args below meth c H1 locs1 (cells + mc) (slots + ms) Q (F0 m (pc + 3) ls (rest))) : W p l e R s m args below meth c H locs cells slots Q (F0 m pc ls st0) := by
  intro T hT X
  rcases hr T hT X with ⟨v, st₀, t, T', L, h0, X', hL, e1, e2, ⟨⟨u, hv, hp, hb⟩, hF⟩, st⟩ | ⟨q, st₀, t, T', L, E, ce, h0, X', hL, e1, e2, ⟨u, hp, hb, hF⟩, hce, hcv, hcl, st⟩
  · cases hv
    obtain ⟨k1, k2, k3⟩ := vx_keep h0 e1 hS hA hf hL hF
    obtain ⟨t2, a1, b1⟩ := kk u t T'.heap (locs ++ L) e1.symm (by rw [← e2]; exact X'.warmed.alike) hp hb k1 k2 k3 T' rfl X'
    exact ⟨t2, st t2 a1, b1⟩
  · obtain ⟨k1, k2, k3⟩ := vx_keep h0 e1 hS hAX hf hL hF
    obtain ⟨t2, a1, b1⟩ := kx E ce q u t T'.heap (locs ++ L) e1.symm (by rw [← e2]; exact X'.warmed.alike) hp hb k1 k2 k3 (by rw [e1]; exact hce) hcv hcl T' rfl X'
    exact ⟨t2, st.trans a1, b1⟩
/-- caught by the row x of this method's table; the rows ahead don't take it -/
theorem vx_catch {own name : String} {E : String} {ce : Cell} {q : Addr} (hown : s.vm.findClass own = some m.cls) (pre : List ExceptionTableEntry) (x : ExceptionTableEntry) (suf : List ExceptionTableEntry) (hsplit : c.exceptionTable.toList = pre ++ x :: suf)
    (hpass : ∀ z ∈ pre, covers z pc = false ∨ (z.catchType ≠ 0 ∧ ∃ nm : String, (Cond.classLink own z.catchType nm).before args s = true ∧ va_Nc E nm s)) (hx : covers x pc = true) (h0 : x.catchType ≠ 0)
    (hlink : (Cond.classLink own x.catchType name).before args s = true) (hcast : (Cond.castable E name).before args s = true) (hcell : H[q]? = some ce) (hv : ce.vm = .none) (hcl : s.vm.findClass E = some ce.cls)
    (kk : W p l e R s m args below meth c H locs cells slots Q (F0 m x.handlerPc ls [.ref q])) : vx_W p l e R s m args below meth c H locs cells slots Q (F0 m pc ls rest) q := by
  intro T hT X
  have hpl : e.platform.magicAccessors = ({} : Platform).magicAccessors := by rw [X.admits.platform]
  obtain ⟨c3, c4, hc3, hc4, hasg⟩ := Cond.castable_spec hcast
  cases Option.some.inj (hc3.symm.trans hcl)
  obtain ⟨c5, hc5, hcl5⟩ := Cond.classLink_spec hown hlink e.platform hpl
  cases Option.some.inj (hc4.symm.trans hc5)
  obtain ⟨vm', X', st⟩ := X.thenCaughtThrough q (g := F0 m pc ls rest) rfl (Steps.refl _) (by rw [hT]; exact hcell) (by rw [hv]; rfl) (by obtain ⟨k9, h9, -⟩ := Vm.findClass_spec hcl; exact ⟨k9, h9⟩) pre x suf hsplit
    (fun z hz => by
      rcases hpass z hz with h | ⟨hz0, nm, hl1, hn1⟩
      · exact Or.inl h
      · obtain ⟨c6, hc6, hcl6⟩ := Cond.classLink_spec hown hl1 e.platform hpl
        obtain ⟨a8, b8, h1, h2, h3⟩ := hn1
        cases Option.some.inj (h1.symm.trans hcl)
        cases Option.some.inj (h2.symm.trans hc6)
        exact Or.inr ⟨hz0, _, hcl6, h3⟩) hx (Or.inr ⟨h0, c4, hcl5, hasg⟩)
  obtain ⟨t, a1, b1⟩ := kk (T.setVm vm') hT X'
  exact ⟨t, st.trans a1, b1⟩
end Rows
section Ends
variable {p : Program} {l : Launch} {e : Env} {R : Room} {s : State} {m : MethodId} {args : Array Value} {below : List Frame} {meth : Method} {c : Code} {H : Heap} {locs : List Loc} {cells slots : Nat} {Q : State → Prop}
variable {mc ms : Nat} {free : Addr → Prop} {A0 A1 : Nat → Prop} {H0 : Heap} {a : Array Value} {ls : Array Slot} {st0 rest : List Value}
variable {Qc : Array Value → State → Outcome → State → Prop} {XC : String → State → State → Prop}
/-- what a body that may throw owes at its end -/
def vx_MQ (below : List Frame) (Qc : Array Value → State → Outcome → State → Prop) (XC : String → State → State → Prop) (a : Array Value) (s : State) (mc ms : Nat) (free : Addr → Prop) : State → Prop := fun t =>
  ∃ o, t.status = .running ∧ Ended t below o ∧ vx_Q Qc XC mc ms free a s o t
theorem vx_ret {g : JFrame} {mc ms : Nat} (k : W p l e R s m args below meth c H locs cells slots (MQ below Qc args s mc ms free) g) : W p l e R s m args below meth c H locs cells slots (vx_MQ below Qc XC args s mc ms free) g := by
  intro T hT X
  obtain ⟨t, a1, o, b1, b2, b3, b4⟩ := k T hT X
  exact ⟨t, a1, o, b1, b2, Or.inl ⟨b3, b4⟩⟩
/-- not caught here: it goes on to the caller -/
theorem vx_widen {g : JFrame} {q : Addr} {k n : Nat} (h1 : cells ≤ k) (h2 : slots ≤ n) (kk : vx_W p l e R s m args below meth c H locs k n Q g q) : vx_W p l e R s m args below meth c H locs cells slots Q g q := fun T hT X => kk T hT (stand_widen X h1 h2)
theorem vx_out {pc : Nat} {E : String} {ce : Cell} {q : Addr} {mc ms : Nat} (hout : ∀ x ∈ c.exceptionTable.toList, covers x pc = false) (hlocks : meth.locks = false) (hcell : H[q]? = some ce) (hv : ce.vm = .none) (hcl : s.vm.findClass E = some ce.cls)
    (hx : ∀ t : State, t.heap = H → s.vm.Alike t.vm → XC E s t) (hf : ∀ z ∈ locs, free z.base) (hc : cells ≤ mc) (hs : slots ≤ ms) :
    vx_W p l e R s m args below meth c H locs cells slots (vx_MQ below Qc XC args s mc ms free) (F0 m pc ls rest) q := by
  intro T hT X
  obtain ⟨st1, hrun, hend, hW, hsm⟩ := X.leaveThrown q (g := F0 m pc ls rest) rfl rfl rfl hout hlocks
  have hcell9 : (T.setFrames (.throwing q :: below)).heap[q]? = some ce := by
    show T.heap[q]? = some ce
    rw [hT]; exact hcell
  exact ⟨_, st1, .threw q, hrun, hend, Or.inr ⟨q, rfl, E, ce, locs, hx _ hT hW.alike, hcell9, hv, hcl, hW, hsm.mono hc hs, hf⟩⟩
theorem vx_frame {U : State} {k n : Nat} (h : s.sameButNew ({ U with vm := s.vm } : State) locs k n) : s.heap.size ≤ U.heap.size ∧ ∀ q : Nat, q < s.heap.size → (∀ z ∈ locs, z.base ≠ q) → U.heap[q]? = s.heap[q]? := by
  obtain ⟨-, h2, -, -, -, h6⟩ := h
  refine ⟨h2, fun q hq hz => ?_⟩
  obtain ⟨c9, e1, e2, e3, e4⟩ := h6 q _ (Array.getElem?_eq_getElem hq)
  have hs : c9.slots = (s.heap[q]).slots := Array.ext_getElem? fun i => e4 i fun hm => hz _ hm rfl
  have h9 : c9 = s.heap[q] := by
    rw [hs] at e2
    exact e2
  have e5 : U.heap[q]? = some c9 := e1
  rw [e5, h9, Array.getElem?_eq_getElem hq]
/-- the words of a throw but the four that speak of the heap -/
def vx_no (w : Cond) : Bool := decide (w ≠ .isRef (.static Bundle.tN "UNASSIGNED_STACK" Bundle.steD)) && decide (w ≠ .isRef (.static Bundle.tN "SUPPRESSED_SENTINEL" Bundle.listD)) && decide (w ≠ .laysStatic Bundle.tN "UNASSIGNED_STACK" Bundle.steD) && decide (w ≠ .laysStatic Bundle.tN "SUPPRESSED_SENTINEL" Bundle.listD)
def vx_at0 (own : String) (ic : Nat) (X : String) (names : List String) : List Cond := (Bundle.ownAtoms0 own ic X names).filter vx_no
def vx_atS (own : String) (ic : Nat) (X : String) (names : List String) : List Cond := (Bundle.ownAtoms own ic X names).filter vx_no
/-- a word that the tables alone decide, or a good one -/
def vx_ot (w : Cond) : Bool := w.onTables || goodWord w
theorem vx_ot_at {args a' : Array Value} {s U : State} {w : Cond} (hW : s.WarmedH U.vm) (hvm : s.vm = U.vm) (hg : vx_ot w = true) (h : w.before args s = true) : w.before a' U = true := by
  simp only [vx_ot, Bool.or_eq_true] at hg
  rcases hg with hg | hg
  · exact va_tabs hg hvm h
  · exact word_at hW (good_of_word hg) h
/-- a list's words: the good ones out of the method's own list, the others by premises of their own -/
theorem vx_hat {args : Array Value} {s : State} {L B : List Cond} (h1 : ∀ w ∈ L.filter goodWord, w.before args s = true) (h2 : ∀ w ∈ L.filter (fun w => !goodWord w), w ∈ B) (h3 : ∀ w ∈ B, w.before args s = true) : ∀ w ∈ L, w.before args s = true := by
  intro w hw
  by_cases g : goodWord w = true
  · exact h1 w (List.mem_filter.mpr ⟨hw, g⟩)
  · refine h3 w (h2 w (List.mem_filter.mpr ⟨hw, ?_⟩))
    show (!goodWord w) = true
    cases hgw : goodWord w
    · rfl
    · exact absurd hgw g
theorem vx_c {args : Array Value} {s : State} {w : Cond} {B : List Cond} (h : w.before args s = true) (t : ∀ w ∈ B, w.before args s = true) : ∀ w' ∈ w :: B, w'.before args s = true := fun w' h' => (List.mem_cons.mp h').elim (fun e => by rw [e]; exact h) (t w')
theorem vx_n {args : Array Value} {s : State} : ∀ w ∈ ([] : List Cond), w.before args s = true := fun _ h => nomatch h
theorem vx_own {args : Array Value} {s : State} {L : List Cond} (h1 : ∀ w ∈ L.filter vx_no, w.before args s = true)
    (hU : (Cond.isRef (.static Bundle.tN "UNASSIGNED_STACK" Bundle.steD)).before args s = true) (hN : (Cond.isRef (.static Bundle.tN "SUPPRESSED_SENTINEL" Bundle.listD)).before args s = true)
    (lU : (Cond.laysStatic Bundle.tN "UNASSIGNED_STACK" Bundle.steD).before args s = true) (lN : (Cond.laysStatic Bundle.tN "SUPPRESSED_SENTINEL" Bundle.listD).before args s = true) : ∀ w ∈ L, w.before args s = true := by
  intro w hw
  by_cases e1 : w = .isRef (.static Bundle.tN "UNASSIGNED_STACK" Bundle.steD)
  · rw [e1]; exact hU
  · by_cases e2 : w = .isRef (.static Bundle.tN "SUPPRESSED_SENTINEL" Bundle.listD)
    · rw [e2]; exact hN
    · by_cases e3 : w = .laysStatic Bundle.tN "UNASSIGNED_STACK" Bundle.steD
      · rw [e3]; exact lU
      · by_cases e4 : w = .laysStatic Bundle.tN "SUPPRESSED_SENTINEL" Bundle.listD
        · rw [e4]; exact lN
        · exact h1 w (List.mem_filter.mpr ⟨hw, by unfold vx_no; rw [decide_eq_true e1, decide_eq_true e2, decide_eq_true e3, decide_eq_true e4]; rfl⟩)
/-- where a static field lies, its class's statics cell in H -/
def vx_L (C n d : String) (A : Nat → Prop) (U : State) (H : Heap) : Prop := ∃ (c : ClassId) (k : Class) (i : Nat) (f : Field) (a : Nat) (cell : Cell), U.vm.findClass C = some c ∧ U.fieldFound? C n d = some (c, k, i, f) ∧ f.isStatic = true ∧ k.statics = some a ∧ H[a]? = some cell ∧ cell.vm.isStatics = true ∧ cell.cls = c ∧ f.slot < cell.slots.size ∧ k.staticTypes[f.slot]? = some f.type ∧ ¬ A a
theorem vx_L.moved {C n d : String} {A : Nat → Prop} {u U : State} {H : Heap} (hvm : u.vm.Alike U.vm) (h : vx_L C n d A u H) : vx_L C n d A U H := by
  obtain ⟨c, k, i, f, a, cell, h1, h2, h3, h4, h5, h6, h7, h8, h9, h10⟩ := h
  obtain ⟨k', hi', he⟩ := State.fieldFound?_setVm hvm h2
  exact ⟨c, k', i, f, a, cell, by rw [hvm.findClass]; exact h1, hi', h3, by rw [he]; exact h4, h5, h6, h7, h8, by rw [he]; exact h9, h10⟩
theorem vx_L.kept {C n d : String} {A : Nat → Prop} {U : State} {H H1 : Heap} (h : vx_L C n d A U H) (hq : ∀ a : Nat, a < H.size → ¬ A a → H1[a]? = H[a]?) : vx_L C n d A U H1 := by
  obtain ⟨c, k, i, f, a, cell, h1, h2, h3, h4, h5, h6, h7, h8, h9, h10⟩ := h
  exact ⟨c, k, i, f, a, cell, h1, h2, h3, h4, by rw [hq a (Array.getElem?_eq_some_iff.mp h5).1 h10]; exact h5, h6, h7, h8, h9, h10⟩
theorem vx_L.narrow {C n d : String} {A B : Nat → Prop} {U : State} {H : Heap} (h : vx_L C n d A U H) (hAB : ∀ q, B q → A q) : vx_L C n d B U H := by
  obtain ⟨c, k, i, f, a, cell, h1, h2, h3, h4, h5, h6, h7, h8, h9, h10⟩ := h
  exact ⟨c, k, i, f, a, cell, h1, h2, h3, h4, h5, h6, h7, h8, h9, fun z => h10 (hAB _ z)⟩
theorem vx_L.word {C n d : String} {A : Nat → Prop} {s : State} {args : Array Value} (h : vx_L C n d A s s.heap) : (Cond.laysStatic C n d).before args s = true := by
  obtain ⟨c, k, i, f, a, cell, h1, h2, h3, h4, h5, h6, h7, h8, h9, -⟩ := h
  show (Cond.laysStatic C n d).holds args s none s [] = true
  exact Cond.laysStatic_of h1 h2 h3 h4 h5 h6 h7 h8 h9
/-- .. and what it holds: null or some reference -/
def vx_Zq (C n d : String) (A : Nat → Prop) (U : State) (H : Heap) : Prop := va_Zq C n d A U H ∧ vx_L C n d A U H
theorem vx_Zq.moved {C n d : String} {A : Nat → Prop} {u U : State} {H : Heap} (hvm : u.vm.Alike U.vm) (h : vx_Zq C n d A u H) : vx_Zq C n d A U H := ⟨va_Zq.moved hvm h.1, vx_L.moved hvm h.2⟩
theorem vx_Zq.kept {C n d : String} {A : Nat → Prop} {U : State} {H H1 : Heap} (h : vx_Zq C n d A U H) (hq : ∀ a : Nat, a < H.size → ¬ A a → H1[a]? = H[a]?) : vx_Zq C n d A U H1 := ⟨va_Zq.kept h.1 hq, vx_L.kept h.2 hq⟩
theorem vx_Zq.narrow {C n d : String} {A B : Nat → Prop} {U : State} {H : Heap} (h : vx_Zq C n d A U H) (hAB : ∀ q, B q → A q) : vx_Zq C n d B U H := ⟨va_Zq.narrow h.1 hAB, vx_L.narrow h.2 hAB⟩
theorem vx_Zqof {args : Array Value} {s : State} {C n d : String} {A : Nat → Prop} (hl : (Cond.laysStatic C n d).before args s = true) (hini : (Cond.initialized C).before args s = true) (h : (Cond.isRef (.static C n d)).before args s = true) (hA : ∀ a : Nat, a < s.heap.size → ¬ A a) : vx_Zq C n d A s s.heap := by
  refine ⟨va_Zqof hl hini h hA, ?_⟩
  obtain ⟨c, k, i, f, a, cell, h1, h2, h3, h4, h5, h6, h7, h8, h9⟩ := Cond.laysStatic_spec hl
  exact ⟨c, k, i, f, a, cell, h1, h2, h3, h4, h5, h6, h7, h8, h9, hA a (Array.getElem?_eq_some_iff.mp h5).1⟩
theorem vx_isRef {C n d : String} {v : Value} {A : Nat → Prop} {s : State} {args : Array Value} (h : va_Z C n d v A s s.heap) (hv : v.isRef = true) : (Cond.isRef (.static C n d)).before args s = true := by
  obtain ⟨cf, kf, fi, f, a, cell, h1, h2, h3, h4, h5, h6, h7, -⟩ := h
  have he : (Term.static C n d).eval args s none [] s = some v := by
    simp [Term.eval, State.fieldNamed?, h1, h2, h4, h5, h6, h7]
  simp only [Cond.before, Cond.holds, Cond.value, he]
  cases v <;> simp_all [Value.isRef]
theorem vx_isRefq {C n d : String} {A : Nat → Prop} {s : State} {args : Array Value} (h : va_Zq C n d A s s.heap) : (Cond.isRef (.static C n d)).before args s = true := by
  rcases h with h | ⟨t, h⟩
  · exact vx_isRef h rfl
  · exact vx_isRef h rfl
/-- the same frame, seen from here: as if the method were called anew in this heap -/
theorem vx_rebase {T : State} (X : Stand p l e R s m args below meth c T locs cells slots) {R' : Room} (hf : R'.frames ≤ R.frames) (hl : R'.locals ≤ R.locals) (hc : cells + R'.cells ≤ R.cells) (hs : slots + R'.slots ≤ R.slots) :
    Stand p l e R' ((T.setVm s.vm).setFrames (.invoking m args :: below)) m args below meth c T [] 0 0 := by
  have htop : (T.setVm s.vm).topJava?.isSome := X.here.top
  have hF : ((T.setVm s.vm).setFrames (.invoking m args :: below)).frames = .invoking m args :: below := State.frames_setFrames _ (State.cur_lt_of_top htop)
  obtain ⟨g₀, hg0⟩ := Option.isSome_iff_exists.mp htop
  obtain ⟨r, hr⟩ := State.topJava?_eq_some.mp hg0
  have hl9 : e.platform.stackLimits (T.setVm s.vm).me = e.platform.stackLimits s.me := X.limits
  have hb9 : (T.setVm s.vm).me.stackBytes = s.me.stackBytes := X.bytes
  refine ⟨X.admits, X.cas, X.clock, hF, ?_, X.hears, X.method, X.code, X.here, X.tail, X.warmed, ?_, ?_, ?_⟩
  · have h := X.room
    have hU : ((T.setVm s.vm).setFrames (.invoking m args :: below)).localsInUse = s.localsInUse := by
      rw [State.localsInUse_invoking hF (meth := meth) (c := c) X.method X.code, State.localsInUse_invoking X.frames X.method X.code]
    simp only [State.hasRoom, Bool.and_eq_true, decide_eq_true_eq] at h ⊢
    obtain ⟨⟨⟨⟨h1, h2, h3, h4, h5, h6⟩, h7⟩, h8⟩, h9⟩ := h
    rw [X.frames, List.length_cons] at h2 h3
    have q1 := X.heapSize
    have q2 := X.used
    simp only [hF, hU, List.length_cons, State.stackLimits_setFrames, State.stackBytes_setFrames, hl9, hb9]
    refine ⟨⟨⟨⟨by omega, by omega, by omega, by omega, by omega, h6⟩, ?_⟩, ?_⟩, X.book⟩
    · show T.heap.size + R'.cells ≤ e.platform.maxCells
      omega
    · show T.slotsUsed + R'.slots ≤ e.platform.maxSlots
      omega
  · rw [State.stackLimits_setFrames]; rfl
  · rw [State.stackBytes_setFrames]; rfl
  · refine ⟨?_, Nat.le_refl _, Nat.le_refl _, ?_, ?_, fun a c9 h9 => ⟨c9, h9, rfl, rfl, fun _ _ => rfl⟩⟩
    · obtain ⟨t, ht, -⟩ := State.frames_cons hr
      show T.setVm s.vm = { ((T.setVm s.vm).setFrames (.invoking m args :: below)).setFrames (T.setVm s.vm).frames with heap := T.heap, slotsUsed := T.slotsUsed }
      rw [State.setFrames_setFrames, State.setFrames_self ht]
      rfl
    · show T.slotsUsed = T.slotsUsed + ((T.heap.toList.drop T.heap.size).map (·.slots.size)).sum
      rw [List.drop_eq_nil_of_le (Nat.le_of_eq Array.length_toList)]
      rfl
    · show ((T.heap.toList.drop T.heap.size).map (·.slots.size)).sum ≤ 0
      rw [List.drop_eq_nil_of_le (Nat.le_of_eq Array.length_toList)]
      exact Nat.le_refl _
/-- 'throw new E()': new; dup; invokespecial; athrow -/
theorem vx_throw0 {cc : ByteArray} {pc : Nat} (hexec : p.tables.exec = Jvm.exec) (hb : c.code = cc) (hl : l.stackTraces = false) {own cls : String} {names : List String} {ik ic mc ms : Nat} {A : Nat → Prop}
    (hown : s.vm.findClass own = some m.cls) (hcls : Bundle.fit cls = true) (hnames : ∀ n ∈ names, Bundle.fit n = true)
    (hk : (Cond.classLink own ik cls).before args s = true) (hini : (Cond.initialized cls).before args s = true) (hat : ∀ w ∈ vx_at0 own ic cls names, w.before args s = true)
    (hgood : ∀ w ∈ Cond.classLink own ik cls :: Cond.initialized cls :: vx_at0 own ic cls names, vx_ot w = true)
    (hU : vx_Zq Bundle.tN "UNASSIGNED_STACK" Bundle.steD A s s.heap) (hN : vx_Zq Bundle.tN "SUPPRESSED_SENTINEL" Bundle.listD A s s.heap) (hS : va_S A s.heap H locs) (hsize : ls.size = c.maxLocals)
    (d0 : decode cc pc = .ok (.new ik, 3)) (d3 : decode cc (pc + 3) = .ok (.dup, 1)) (d4 : decode cc (pc + 4) = .ok (.invokespecial ic, 3)) (d7 : decode cc (pc + 7) = .ok (.athrow, 1))
    (hout : ∀ x ∈ c.exceptionTable.toList, covers x (pc + 7) = false)
    (hRframes : names.length + 3 < R.frames) (hRlocals : (rest.map fun v => v.category).sum + (13 * (names.length + 1) + 42) ≤ R.locals) (hRcells : cells + 1 ≤ R.cells) (hRslots : slots + 6 ≤ R.slots) (hlocks : meth.locks = false)
    (hx : ∀ t : State, s.vm.Alike t.vm → H.size ≤ t.heap.size → (∀ q : Nat, q < H.size → t.heap[q]? = H[q]?) → XC cls s t)
    (hf : ∀ z ∈ locs, free z.base) (hc : cells + 1 ≤ mc) (hs : slots + 6 ≤ ms) :
    W p l e R s m args below meth c H locs cells slots (vx_MQ below Qc XC args s mc ms free) (F0 m pc ls rest) := by
  intro T hT X
  have htr : e.platform.stackTraces = false := (show e.platform.stackTraces = l.stackTraces by rw [X.admits.platform]).trans hl
  have Y := vx_rebase X (R' := { frames := R.frames, locals := R.locals, cells := 1, slots := 6 }) (Nat.le_refl _) (Nat.le_refl _) hRcells hRslots
  obtain ⟨s', hA⟩ : ∃ z, z = (T.setVm s.vm).setFrames (.invoking m args :: below) := ⟨_, rfl⟩
  rw [← hA] at Y
  have hvm : s'.vm = s.vm := by rw [hA]; rfl
  have hhp : s'.heap = H := by rw [hA]; exact hT
  have hW0 : s.WarmedH s'.vm := by rw [hvm]; exact State.WarmedH.refl s
  have hat' : ∀ w ∈ vx_at0 own ic cls names, w.before args s' = true := fun w hw => vx_ot_at hW0 hvm.symm (hgood w (List.mem_cons_of_mem _ (List.mem_cons_of_mem _ hw))) (hat w hw)
  have hk' : (Cond.classLink own ik cls).before args s' = true := vx_ot_at hW0 hvm.symm (hgood _ List.mem_cons_self) hk
  have hini' : (Cond.initialized cls).before args s' = true := vx_ot_at hW0 hvm.symm (hgood _ (List.mem_cons_of_mem _ List.mem_cons_self)) hini
  have hU' : vx_Zq Bundle.tN "UNASSIGNED_STACK" Bundle.steD A s' s'.heap := by rw [hhp]; exact vx_Zq.moved hW0.alike (hU.kept hS.2.1)
  have hN' : vx_Zq Bundle.tN "SUPPRESSED_SENTINEL" Bundle.listD A s' s'.heap := by rw [hhp]; exact vx_Zq.moved hW0.alike (hN.kept hS.2.1)
  have h : ∀ w ∈ Bundle.ownAtoms0 own ic cls names, w.before args s' = true := vx_own hat' (vx_isRefq hU'.1) (vx_isRefq hN'.1) hU'.2.word hN'.2.word
  have hown' : s'.vm.findClass own = some m.cls := by rw [hvm]; exact hown
  have hins : (Cond.instantiable cls 6).before args s' = true := h _ (by simp [Bundle.ownAtoms0])
  obtain ⟨vm₁, cX, kX, hfX, hkX, -, -, X₁, st1⟩ := Y.newCold hexec (own := own) (C := cls) (index := ik) (n := 6) hown' hk' hins hini'
    (g := F0 m pc ls rest) rfl (by rw [hb]; exact d0) (Nat.le_refl _) (Nat.le_refl _)
  generalize hT1 : (T.setVm vm₁).pushCell { cls := cX, slots := kX.instanceTypes.map defaultValue, vm := .none } = T1 at X₁ st1
  have hcat : (Value.ref T.heap.size).category = 1 := rfl
  have hcellA : T1.heap[T.heap.size]? = some (freshCell cX kX) := by rw [← hT1]; exact State.heap_pushCell_size _ _
  have d3' : decode c.code (pc + 3) = .ok (.dup, 1) := by rw [hb]; exact d3
  obtain ⟨U, hsteps, hrun, hend, hW, hsame, ce, hce, hO⟩ := X₁.ctorThrow0 hexec htr (own := own) (cls := cls) (names := names) (ic := ic) hown' hcls hnames h (fun x hx => nomatch hx) hfX hkX hcellA (by rw [hhp, hT]; exact Nat.le_refl _)
    (g := { method := m, pc := pc + 4, locals := ls, stack := .ref T.heap.size :: .ref T.heap.size :: rest, locked := none }) rfl hsize rfl rfl (rest := rest) rfl
    (by rw [hb]; exact d4) (by rw [hb]; exact d7) hout hRframes (by simp only [List.map_cons, List.sum_cons, hcat]; omega) hlocks
  obtain ⟨f1, f2⟩ := vx_frame hsame
  rw [hhp] at f1 f2
  have hWs : s.WarmedH U.vm := State.WarmedH.trans hW0 hW
  have hcl : s.vm.findClass cls = some ce.cls := by
    have h9 := hO.cls
    rw [hvm] at h9
    exact h9
  have hall : s.sameButNew ({ U with vm := s.vm } : State) locs mc ms := by
    subst hA
    obtain ⟨e1, e2⟩ := hsame
    rw [State.setFrames_setFrames] at e1
    have h2 : (T.setVm s.vm).sameButNew ({ U with vm := s.vm } : State) [] (0 + 1) (0 + 6) := ⟨e1, e2⟩
    have h3 := X.same.trans h2
    rw [List.append_nil] at h3
    exact h3.mono hc hs
  refine ⟨U, ?_, .threw T.heap.size, hrun, hend, Or.inr ⟨T.heap.size, rfl, cls, ce, locs, hx U hWs.alike f1 (fun q hq => f2 q hq (fun z hz => nomatch hz)), hce, hO.vm, hcl, hWs, hall, hf⟩⟩
  refine st1 _ ?_
  show Steps p.tables e below (T1.setTop { method := m, pc := pc + 3, locals := ls, stack := .ref T.heap.size :: rest, locked := none }) _
  jvm_step X₁.here [X₁.here.top, hexec, d3', Value.category]
  exact hsteps
/-- 'throw new E("text")': new; dup; ldc; invokespecial; athrow -/
theorem vx_throwS {cc : ByteArray} {pc : Nat} (hexec : p.tables.exec = Jvm.exec) (hb : c.code = cc) (hl : l.stackTraces = false) {own cls text : String} {names : List String} {ik is ic mc ms sa : Nat} {A : Nat → Prop}
    (hown : s.vm.findClass own = some m.cls) (hcls : Bundle.fit cls = true) (hnames : ∀ n ∈ names, Bundle.fit n = true)
    (hk : (Cond.classLink own ik cls).before args s = true) (hini : (Cond.initialized cls).before args s = true) (hstr : vk_R own is text sa s) (hat : ∀ w ∈ vx_atS own ic cls names, w.before args s = true)
    (hgood : ∀ w ∈ Cond.classLink own ik cls :: Cond.initialized cls :: vx_atS own ic cls names, vx_ot w = true)
    (hU : vx_Zq Bundle.tN "UNASSIGNED_STACK" Bundle.steD A s s.heap) (hN : vx_Zq Bundle.tN "SUPPRESSED_SENTINEL" Bundle.listD A s s.heap) (hS : va_S A s.heap H locs) (hsize : ls.size = c.maxLocals)
    (d0 : decode cc pc = .ok (.new ik, 3)) (d3 : decode cc (pc + 3) = .ok (.dup, 1)) (d4 : decode cc (pc + 4) = .ok (.ldc is, 2)) (d6 : decode cc (pc + 6) = .ok (.invokespecial ic, 3)) (d9 : decode cc (pc + 9) = .ok (.athrow, 1))
    (hout : ∀ x ∈ c.exceptionTable.toList, covers x (pc + 9) = false)
    (hRframes : names.length + 3 < R.frames) (hRlocals : (rest.map fun v => v.category).sum + (13 * (names.length + 1) + 43) ≤ R.locals) (hRcells : cells + 1 ≤ R.cells) (hRslots : slots + 6 ≤ R.slots) (hlocks : meth.locks = false)
    (hx : ∀ t : State, s.vm.Alike t.vm → H.size ≤ t.heap.size → (∀ q : Nat, q < H.size → t.heap[q]? = H[q]?) → XC cls s t)
    (hf : ∀ z ∈ locs, free z.base) (hc : cells + 1 ≤ mc) (hs : slots + 6 ≤ ms) :
    W p l e R s m args below meth c H locs cells slots (vx_MQ below Qc XC args s mc ms free) (F0 m pc ls rest) := by
  intro T hT X
  have htr : e.platform.stackTraces = false := (show e.platform.stackTraces = l.stackTraces by rw [X.admits.platform]).trans hl
  have Y := vx_rebase X (R' := { frames := R.frames, locals := R.locals, cells := 1, slots := 6 }) (Nat.le_refl _) (Nat.le_refl _) hRcells hRslots
  obtain ⟨s', hA⟩ : ∃ z, z = (T.setVm s.vm).setFrames (.invoking m args :: below) := ⟨_, rfl⟩
  rw [← hA] at Y
  have hvm : s'.vm = s.vm := by rw [hA]; rfl
  have hhp : s'.heap = H := by rw [hA]; exact hT
  have hW0 : s.WarmedH s'.vm := by rw [hvm]; exact State.WarmedH.refl s
  have hat' : ∀ w ∈ vx_atS own ic cls names, w.before args s' = true := fun w hw => vx_ot_at hW0 hvm.symm (hgood w (List.mem_cons_of_mem _ (List.mem_cons_of_mem _ hw))) (hat w hw)
  have hk' : (Cond.classLink own ik cls).before args s' = true := vx_ot_at hW0 hvm.symm (hgood _ List.mem_cons_self) hk
  have hini' : (Cond.initialized cls).before args s' = true := vx_ot_at hW0 hvm.symm (hgood _ (List.mem_cons_of_mem _ List.mem_cons_self)) hini
  have hU' : vx_Zq Bundle.tN "UNASSIGNED_STACK" Bundle.steD A s' s'.heap := by rw [hhp]; exact vx_Zq.moved hW0.alike (hU.kept hS.2.1)
  have hN' : vx_Zq Bundle.tN "SUPPRESSED_SENTINEL" Bundle.listD A s' s'.heap := by rw [hhp]; exact vx_Zq.moved hW0.alike (hN.kept hS.2.1)
  have h : ∀ w ∈ Bundle.ownAtoms own ic cls names, w.before args s' = true := vx_own hat' (vx_isRefq hU'.1) (vx_isRefq hN'.1) hU'.2.word hN'.2.word
  have hown' : s'.vm.findClass own = some m.cls := by rw [hvm]; exact hown
  have hins : (Cond.instantiable cls 6).before args s' = true := h _ (by simp [Bundle.ownAtoms])
  obtain ⟨vm₁, cX, kX, hfX, hkX, -, -, X₁, st1⟩ := Y.newCold hexec (own := own) (C := cls) (index := ik) (n := 6) hown' hk' hins hini'
    (g := F0 m pc ls rest) rfl (by rw [hb]; exact d0) (Nat.le_refl _) (Nat.le_refl _)
  generalize hT1 : (T.setVm vm₁).pushCell { cls := cX, slots := kX.instanceTypes.map defaultValue, vm := .none } = T1 at X₁ st1
  have hcat : (Value.ref T.heap.size).category = 1 := rfl
  have hcellA : T1.heap[T.heap.size]? = some (freshCell cX kX) := by rw [← hT1]; exact State.heap_pushCell_size _ _
  have d3' : decode c.code (pc + 3) = .ok (.dup, 1) := by rw [hb]; exact d3
  have d4' : decode c.code (pc + 4) = .ok (.ldc is, 2) := by rw [hb]; exact d4
  have hstr' : vk_R own is text sa s' := vk_R.warm hW0 hstr
  obtain ⟨U, hsteps, hrun, hend, hW, hsame, ce, hce, hO⟩ := X₁.ctorThrowS hexec htr (own := own) (cls := cls) (names := names) (ic := ic) hown' hcls hnames h (fun x hx => nomatch hx) hfX hkX hcellA (by rw [hhp, hT]; exact Nat.le_refl _) (msg := .ref sa) rfl
    (g := { method := m, pc := pc + 6, locals := ls, stack := .ref sa :: .ref T.heap.size :: .ref T.heap.size :: rest, locked := none }) rfl hsize rfl rfl (rest := rest) rfl
    (by rw [hb]; exact d6) (by rw [hb]; exact d9) hout hRframes (by simp only [List.map_cons, List.sum_cons, hcat]; omega) hlocks
  obtain ⟨f1, f2⟩ := vx_frame hsame
  rw [hhp] at f1 f2
  have hWs : s.WarmedH U.vm := State.WarmedH.trans hW0 hW
  have hcl : s.vm.findClass cls = some ce.cls := by
    have h9 := hO.cls
    rw [hvm] at h9
    exact h9
  have hall : s.sameButNew ({ U with vm := s.vm } : State) locs mc ms := by
    subst hA
    obtain ⟨e1, e2⟩ := hsame
    rw [State.setFrames_setFrames] at e1
    have h2 : (T.setVm s.vm).sameButNew ({ U with vm := s.vm } : State) [] (0 + 1) (0 + 6) := ⟨e1, e2⟩
    have h3 := X.same.trans h2
    rw [List.append_nil] at h3
    exact h3.mono hc hs
  refine ⟨U, ?_, .threw T.heap.size, hrun, hend, Or.inr ⟨T.heap.size, rfl, cls, ce, locs, hx U hWs.alike f1 (fun q hq => f2 q hq (fun z hz => nomatch hz)), hce, hO.vm, hcl, hWs, hall, hf⟩⟩
  refine st1 _ ?_
  show Steps p.tables e below (T1.setTop { method := m, pc := pc + 3, locals := ls, stack := .ref T.heap.size :: rest, locked := none }) _
  jvm_step X₁.here [X₁.here.top, hexec, d3', Value.category]
  exact X₁.ldcString hexec (own := own) (text := text) (index := is) (a := sa) hown' hstr'.1 hstr'.2
    (g := { method := m, pc := pc + 4, locals := ls, stack := .ref T.heap.size :: .ref T.heap.size :: rest, locked := none }) rfl d4' _ hsteps
/-- 'throw new E("text")', the text by a wide index -/
theorem vx_throwSW {cc : ByteArray} {pc : Nat} (hexec : p.tables.exec = Jvm.exec) (hb : c.code = cc) (hl : l.stackTraces = false) {own cls text : String} {names : List String} {ik is ic mc ms sa : Nat} {A : Nat → Prop}
    (hown : s.vm.findClass own = some m.cls) (hcls : Bundle.fit cls = true) (hnames : ∀ n ∈ names, Bundle.fit n = true)
    (hk : (Cond.classLink own ik cls).before args s = true) (hini : (Cond.initialized cls).before args s = true) (hstr : vk_R own is text sa s) (hat : ∀ w ∈ vx_atS own ic cls names, w.before args s = true)
    (hgood : ∀ w ∈ Cond.classLink own ik cls :: Cond.initialized cls :: vx_atS own ic cls names, vx_ot w = true)
    (hU : vx_Zq Bundle.tN "UNASSIGNED_STACK" Bundle.steD A s s.heap) (hN : vx_Zq Bundle.tN "SUPPRESSED_SENTINEL" Bundle.listD A s s.heap) (hS : va_S A s.heap H locs) (hsize : ls.size = c.maxLocals)
    (d0 : decode cc pc = .ok (.new ik, 3)) (d3 : decode cc (pc + 3) = .ok (.dup, 1)) (d4 : decode cc (pc + 4) = .ok (.ldc_w is, 3)) (d7 : decode cc (pc + 7) = .ok (.invokespecial ic, 3)) (d10 : decode cc (pc + 10) = .ok (.athrow, 1))
    (hout : ∀ x ∈ c.exceptionTable.toList, covers x (pc + 10) = false)
    (hRframes : names.length + 3 < R.frames) (hRlocals : (rest.map fun v => v.category).sum + (13 * (names.length + 1) + 43) ≤ R.locals) (hRcells : cells + 1 ≤ R.cells) (hRslots : slots + 6 ≤ R.slots) (hlocks : meth.locks = false)
    (hx : ∀ t : State, s.vm.Alike t.vm → H.size ≤ t.heap.size → (∀ q : Nat, q < H.size → t.heap[q]? = H[q]?) → XC cls s t)
    (hf : ∀ z ∈ locs, free z.base) (hc : cells + 1 ≤ mc) (hs : slots + 6 ≤ ms) :
    W p l e R s m args below meth c H locs cells slots (vx_MQ below Qc XC args s mc ms free) (F0 m pc ls rest) := by
  intro T hT X
  have htr : e.platform.stackTraces = false := (show e.platform.stackTraces = l.stackTraces by rw [X.admits.platform]).trans hl
  have Y := vx_rebase X (R' := { frames := R.frames, locals := R.locals, cells := 1, slots := 6 }) (Nat.le_refl _) (Nat.le_refl _) hRcells hRslots
  obtain ⟨s', hA⟩ : ∃ z, z = (T.setVm s.vm).setFrames (.invoking m args :: below) := ⟨_, rfl⟩
  rw [← hA] at Y
  have hvm : s'.vm = s.vm := by rw [hA]; rfl
  have hhp : s'.heap = H := by rw [hA]; exact hT
  have hW0 : s.WarmedH s'.vm := by rw [hvm]; exact State.WarmedH.refl s
  have hat' : ∀ w ∈ vx_atS own ic cls names, w.before args s' = true := fun w hw => vx_ot_at hW0 hvm.symm (hgood w (List.mem_cons_of_mem _ (List.mem_cons_of_mem _ hw))) (hat w hw)
  have hk' : (Cond.classLink own ik cls).before args s' = true := vx_ot_at hW0 hvm.symm (hgood _ List.mem_cons_self) hk
  have hini' : (Cond.initialized cls).before args s' = true := vx_ot_at hW0 hvm.symm (hgood _ (List.mem_cons_of_mem _ List.mem_cons_self)) hini
  have hU' : vx_Zq Bundle.tN "UNASSIGNED_STACK" Bundle.steD A s' s'.heap := by rw [hhp]; exact vx_Zq.moved hW0.alike (hU.kept hS.2.1)
  have hN' : vx_Zq Bundle.tN "SUPPRESSED_SENTINEL" Bundle.listD A s' s'.heap := by rw [hhp]; exact vx_Zq.moved hW0.alike (hN.kept hS.2.1)
  have h : ∀ w ∈ Bundle.ownAtoms own ic cls names, w.before args s' = true := vx_own hat' (vx_isRefq hU'.1) (vx_isRefq hN'.1) hU'.2.word hN'.2.word
  have hown' : s'.vm.findClass own = some m.cls := by rw [hvm]; exact hown
  have hins : (Cond.instantiable cls 6).before args s' = true := h _ (by simp [Bundle.ownAtoms])
  obtain ⟨vm₁, cX, kX, hfX, hkX, -, -, X₁, st1⟩ := Y.newCold hexec (own := own) (C := cls) (index := ik) (n := 6) hown' hk' hins hini'
    (g := F0 m pc ls rest) rfl (by rw [hb]; exact d0) (Nat.le_refl _) (Nat.le_refl _)
  generalize hT1 : (T.setVm vm₁).pushCell { cls := cX, slots := kX.instanceTypes.map defaultValue, vm := .none } = T1 at X₁ st1
  have hcat : (Value.ref T.heap.size).category = 1 := rfl
  have hcellA : T1.heap[T.heap.size]? = some (freshCell cX kX) := by rw [← hT1]; exact State.heap_pushCell_size _ _
  have d3' : decode c.code (pc + 3) = .ok (.dup, 1) := by rw [hb]; exact d3
  have d4' : decode c.code (pc + 4) = .ok (.ldc_w is, 3) := by rw [hb]; exact d4
  have hstr' : vk_R own is text sa s' := vk_R.warm hW0 hstr
  obtain ⟨U, hsteps, hrun, hend, hW, hsame, ce, hce, hO⟩ := X₁.ctorThrowS hexec htr (own := own) (cls := cls) (names := names) (ic := ic) hown' hcls hnames h (fun x hx => nomatch hx) hfX hkX hcellA (by rw [hhp, hT]; exact Nat.le_refl _) (msg := .ref sa) rfl
    (g := { method := m, pc := pc + 7, locals := ls, stack := .ref sa :: .ref T.heap.size :: .ref T.heap.size :: rest, locked := none }) rfl hsize rfl rfl (rest := rest) rfl
    (by rw [hb]; exact d7) (by rw [hb]; exact d10) hout hRframes (by simp only [List.map_cons, List.sum_cons, hcat]; omega) hlocks
  obtain ⟨f1, f2⟩ := vx_frame hsame
  rw [hhp] at f1 f2
  have hWs : s.WarmedH U.vm := State.WarmedH.trans hW0 hW
  have hcl : s.vm.findClass cls = some ce.cls := by
    have h9 := hO.cls
    rw [hvm] at h9
    exact h9
  have hall : s.sameButNew ({ U with vm := s.vm } : State) locs mc ms := by
    subst hA
    obtain ⟨e1, e2⟩ := hsame
    rw [State.setFrames_setFrames] at e1
    have h2 : (T.setVm s.vm).sameButNew ({ U with vm := s.vm } : State) [] (0 + 1) (0 + 6) := ⟨e1, e2⟩
    have h3 := X.same.trans h2
    rw [List.append_nil] at h3
    exact h3.mono hc hs
  refine ⟨U, ?_, .threw T.heap.size, hrun, hend, Or.inr ⟨T.heap.size, rfl, cls, ce, locs, hx U hWs.alike f1 (fun q hq => f2 q hq (fun z hz => nomatch hz)), hce, hO.vm, hcl, hWs, hall, hf⟩⟩
  refine st1 _ ?_
  show Steps p.tables e below (T1.setTop { method := m, pc := pc + 3, locals := ls, stack := .ref T.heap.size :: rest, locked := none }) _
  jvm_step X₁.here [X₁.here.top, hexec, d3', Value.category]
  exact X₁.ldcStringW hexec (own := own) (text := text) (index := is) (a := sa) hown' hstr'.1 hstr'.2
    (g := { method := m, pc := pc + 4, locals := ls, stack := .ref T.heap.size :: .ref T.heap.size :: rest, locked := none }) rfl d4' _ hsteps
end Ends
section Bodies
variable {l : Launch}
theorem vx_ofW {y : MethodName} {ws ws' : List Cond} {rm : Room} {Pc : Array Value → State → Prop} {Qc : Array Value → State → Outcome → State → Prop} {XC : String → State → State → Prop} {mc ms : Nat} {free : Addr → Prop} {cc : ByteArray} {maxL : Nat} {ret : Option FieldType}
    (hy : plainName y.cls = true) (hw : ws = Cond.code y cc maxL ret :: ws')
    (body : ∀ p e s m args below meth c s₁, BodyLoose p l y (headSpec ws rm) cc maxL ret e s m args below meth c s₁ → c.maxLocals = maxL → (∀ x ∈ c.exceptionTable.toList, False) → Pc args s →
      W p l e (headSpec ws rm).room s m args below meth c s.heap [] 0 0 (vx_MQ below Qc XC args s mc ms free) (entryFrame m args maxL)) : vx_Met l y ws rm Pc Qc XC mc ms free := by
  refine MetFree.of_bodyS (code := cc) (maxLocals := maxL) (ret := ret) hy ?_ ?_
  · intro args s m h hn
    obtain ⟨meth, c, h1, h2, h3, h4, h5, h6, -, -⟩ := Cond.code_spec hn (atoms_spec (ws := ws) h _ (by rw [hw]; exact List.mem_cons_self))
    exact ⟨meth, c, h1, h2, h3, h4, h5, h6⟩
  · intro p e s m args below meth c s₁ B hml hP _
    have hh0 : s₁.heap = s.heap := by rw [B.state]; rfl
    have ht : ∀ x ∈ c.exceptionTable.toList, False := by
      obtain ⟨meth9, c9, h1, h2, -, -, -, -, h7, -⟩ := Cond.code_spec B.named (atoms_spec (ws := ws) B.pre _ (by rw [hw]; exact List.mem_cons_self))
      cases Option.some.inj (h1.symm.trans B.method)
      cases Option.some.inj (h2.symm.trans (Stand.of_body B).code)
      intro x hx
      rw [Array.isEmpty_iff.mp h7] at hx
      cases hx
    obtain ⟨t, a1, o, b1, b2, b3⟩ := body p e s m args below meth c s₁ B hml ht hP s₁ hh0 (Stand.of_body B)
    exact ⟨t, o, a1, b1, b2, b3⟩
/-- the table of a body with handlers -/
theorem vx_table {p : Program} {x y : MethodName} {S : Spec} {cc bytes : ByteArray} {maxL maxL' : Nat} {ret ret' : Option FieldType} {e : Env} {s s₁ : State} {m : MethodId} {args : Array Value} {below : List Frame} {meth : Method} {c : Code} {hh : List (Nat × Nat × Nat × Nat)}
    (B : BodyLoose p l y S cc maxL ret e s m args below meth c s₁) (h : (Cond.codeWith y bytes maxL' ret' hh).before args s = true) : c.exceptionTable.toList = tableOf hh := by
  obtain ⟨m9, meth9, c9, hn9, h1, h2, -, -, h6, -⟩ := Cond.codeWith_spec h
  cases Option.some.inj (hn9.symm.trans B.named)
  cases Option.some.inj (h1.symm.trans B.method)
  cases Option.some.inj (h2.symm.trans (Stand.of_body B).code)
  rw [← h6, table_eq]
end Bodies
end VXA
/-! ===== END ===== -/
/-! ===== BEGIN a static call of a method with an exception table ===== -/
section VXS
variable {p : Program} {l : Launch} {e : Env} {R : Room} {s : State} {m : MethodId} {args : Array Value} {below : List Frame} {meth : Method} {c : Code} {T : State} {H : Heap} {locs : List Loc} {cells slots : Nat}
abbrev vx_CSW (R : Room) (s : State) (args : Array Value) (own : String) (index : Nat) (y : MethodName) (bytes : ByteArray) (maxL : Nat) (ret : Option FieldType) (hh : List (Nat × Nat × Nat × Nat)) (ws : List Cond) (rm : Room) (mc ms n : Nat) : Prop :=
  (rm.cells = mc ∧ rm.slots = ms ∧ rm.frames + 1 ≤ R.frames ∧ 8 + (maxL + 11) + rm.locals ≤ R.locals ∧ (∀ w ∈ ws, ∀ (a' : Array Value) (U : State), s.WarmedH U.vm → w.before a' U = true) ∧ Cond.codeWith y bytes maxL ret hh ∈ ws) ∧
  (Cond.codeWith y bytes maxL ret hh).before args s = true ∧ (Cond.initialized y.cls).before args s = true ∧ (y.cls ≠ "java/lang/invoke/MethodHandle" ∧ y.cls ≠ "java/lang/invoke/VarHandle") ∧
  (∀ sig, parseMethodDescriptor y.desc = some sig → n = sig.parameters.length) ∧ (Cond.methodLink own index y).before args s = true ∧ (Cond.static y).before args s = true
theorem vx_cwSW {own : String} {index maxL mc ms : Nat} {y : MethodName} {bytes : ByteArray} {ret : Option FieldType} {hh : List (Nat × Nat × Nat × Nat)} {Ts ws ws' : List Cond} {rm : Room} (n : Nat) (ht : ∀ w ∈ Ts, w.before args s = true) (hT : GoodIn Ts (va_wsS own index y ws)) (hw : ws = Cond.codeWith y bytes maxL ret hh :: ws') (hrc : rm.cells = mc) (hrs : rm.slots = ms)
    (hd : y.cls ≠ "java/lang/invoke/MethodHandle" ∧ y.cls ≠ "java/lang/invoke/VarHandle" ∧ (parseMethodDescriptor y.desc).map (fun d => d.parameters.length) = some n) (hR : rm.frames + 1 ≤ R.frames ∧ 8 + (maxL + 11) + rm.locals ≤ R.locals) :
    vx_CSW R s args own index y bytes maxL ret hh ws rm mc ms n := by
  have ok : ∀ w ∈ va_wsS own index y ws, w.before args s = true := fun w h => ht w (hT w h).1
  have hG : GoodIn Ts ws := fun w h => hT w (by unfold va_wsS; exact List.mem_append_right _ h)
  have hc : Cond.codeWith y bytes maxL ret hh ∈ ws := by rw [hw]; exact List.mem_cons_self
  refine ⟨⟨hrc, hrs, hR.1, hR.2, pay_in ht hG, hc⟩, ht _ (hG _ hc).1, ok _ (by simp [va_wsS]), ⟨hd.1, hd.2.1⟩, fun sig h => ?_, ok _ (by simp [va_wsS]), ok _ (by simp [va_wsS])⟩
  have h2 := hd.2.2
  rw [h] at h2
  exact (Option.some.inj h2).symm
theorem vx_callSW (X : Stand p l e R s m args below meth c T locs cells slots) (hexec : p.tables.exec = Jvm.exec) {own : String} {index : Nat} {y : MethodName} {bytes : ByteArray} {maxL : Nat} {ret : Option FieldType} {hh : List (Nat × Nat × Nat × Nat)}
    (hown : s.vm.findClass own = some m.cls) (hlink : (Cond.methodLink own index y).before args s = true) (hstat : (Cond.static y).before args s = true) (hinit : (Cond.initialized y.cls).before args s = true)
    (hcode : (Cond.codeWith y bytes maxL ret hh).before args s = true) (hy : y.cls ≠ "java/lang/invoke/MethodHandle" ∧ y.cls ≠ "java/lang/invoke/VarHandle")
    {W9 : Nat} {Pre : Pt → Array Value → Prop} {Post : Pt → Array Value → Option Value → Pt → Prop} (hK : Back l R p e below s args y 3 W9 Pre Post)
    {g : JFrame} (hg : g.method = m) (hsize : g.locals.size = c.maxLocals) {argsL rest : List Value} (hlen : ∀ sig, parseMethodDescriptor y.desc = some sig → argsL.length = sig.parameters.length)
    (hstack : g.stack = argsL.reverse ++ rest) (hW : 2 * g.monitorRoom + (rest.map fun v => v.category).sum ≤ W9) (hdg : decode c.code g.pc = .ok (.invokestatic index, 3))
    (hpre : ∀ vm₁, s.WarmedH vm₁ → Pre ⟨T.setVm vm₁, locs, cells, slots⟩ argsL.toArray) :
    ∃ (v : Option Value) (vm₁ : Vm) (B : Pt), s.WarmedH vm₁ ∧ Stand p l e R s m args below meth c B.U B.locs B.cells B.slots ∧ Post ⟨T.setVm vm₁, locs, cells, slots⟩ argsL.toArray v B ∧
      ∀ target, Steps p.tables e below (B.U.setTop { g with pc := g.pc + 3, stack := v.toList ++ rest }) target → Steps p.tables e below (T.setTop g) target := by
  obtain ⟨mk, methM, cM, hnamed, hmethM, -, -, -, -, -, -, hsigM⟩ := Cond.codeWith_spec hcode
  have hstatic : methM.isStatic = true := Cond.static_spec hnamed hmethM hstat
  obtain ⟨kP, hkP, -⟩ := className_of_methodNamed hnamed
  have hinitP : kP.init = .initialized := Cond.initialized_spec (findClass_of_methodNamed hnamed) hkP hinit
  obtain ⟨vm₁, X₁, hstep₁⟩ := X.invokestatic hexec hown hlink hnamed hmethM hstatic hkP hinitP hy (g := g) hg (argsL := argsL) (rest := rest) (hlen _ hsigM) hstack hdg
  obtain ⟨v, B, X', hpost, hsteps⟩ := hK m meth c ⟨T.setVm vm₁, locs, cells, slots⟩ { g with stack := rest } (.invokestatic index) mk argsL.toArray X₁ hg hsize hdg hW (X₁.named hnamed) (hpre vm₁ X₁.warmed)
  exact ⟨v, vm₁, B, X₁.warmed, X', hpost, fun target h => hstep₁ _ fun acts => by rw [doInvoke_state]; exact hsteps.trans h⟩
theorem vx_runSW {y : MethodName} {bytes cc : ByteArray} {maxL nL mc ms n index : Nat} {ret : Option FieldType} {hh : List (Nat × Nat × Nat × Nat)} {ws : List Cond} {rm : Room} {Pc : Array Value → State → Prop} {Qc : Array Value → State → Outcome → State → Prop} {free : Addr → Prop} {Ts : List Cond} {own : String} {As rest : List Value} {g : JFrame}
    (S : CallFix p m c cc nL s args Ts own) (hM : Met l y ws rm Pc Qc mc ms free) (cw : vx_CSW R s args own index y bytes maxL ret hh ws rm mc ms n) (hp : PreS s H Pc As)
    (hg : g.method = m) (hn : As.length = n) (hsize : g.locals.size = nL) (hstack : g.stack = As.reverse ++ rest) (hW : 2 * g.monitorRoom + (rest.map fun v => v.category).sum ≤ 8) (hdg : decode cc g.pc = .ok (.invokestatic index, 3)) (hf : cells + mc ≤ R.cells ∧ slots + ms ≤ R.slots) :
    va_Run p l e R s m args below meth c H locs cells slots mc ms g rest (Qc As.toArray) (free) := by
  obtain ⟨⟨hrc, hrs, hfr, hlo, hws, hcw⟩, hcode, hini, hy, hlen, hl, hstt⟩ := cw
  have hK : Back l R p e below s args y 3 8 (PreOf R mc ms Pc) (PostOf Qc mc ms free) := va_backW (hh := hh) (bytes := bytes) (maxL := maxL) (ret := ret) hM hp.1 hrc hrs hfr hlo hws hcw (fun a' U hW => word_at hW (Or.inl (by first | rfl | simp [Cond.onTables, Cond.keeps, Cond.steady])) hini)
  obtain ⟨hx, hb, hml, ho, -⟩ := S
  intro T hT X
  obtain ⟨v, vm₁, ⟨U', l2, c2, s2⟩, hW₁, X', ⟨g', mk, t, L, e1, e2, hq, h1, hL, h2, h3⟩, st⟩ := vx_callSW X hx (hh := hh) (bytes := bytes) (maxL := maxL) (ret := ret) ho hl hstt hini hcode hy hK hg (hsize.trans hml.symm) (argsL := As) (rest := rest) (fun sig h => hn.trans (hlen sig h)) hstack hW (by rw [hb]; exact hdg)
    (fun vm₁ hW₁ => ⟨hf.1, hf.2, hp.2 (T.setVm vm₁) hT hW₁⟩)
  dsimp only [Pt.U, Pt.locs, Pt.cells, Pt.slots] at X' e1 e2 h1 h2 h3 st
  subst h1; subst h2; subst h3
  exact ⟨v, (T.setVm vm₁).calling g' mk As.toArray, t, U', L, hT, X', hL, e1, e2, hq, st⟩
/-- not caught here, past rows that name other classes: it goes on to the caller -/
theorem vx_outP {p : Program} {l : Launch} {e : Env} {R : Room} {s : State} {m : MethodId} {args : Array Value} {below : List Frame} {meth : Method} {c : Code} {H : Heap} {locs : List Loc} {cells slots : Nat} {free : Addr → Prop} {ls : Array Slot} {rest : List Value} {Qc : Array Value → State → Outcome → State → Prop} {XC : String → State → State → Prop}
    {pc : Nat} {own E : String} {ce : Cell} {q : Addr} {mc ms : Nat} (hown : s.vm.findClass own = some m.cls) (hlocks : meth.locks = false)
    (hpass : ∀ z ∈ c.exceptionTable.toList, covers z pc = false ∨ (z.catchType ≠ 0 ∧ ∃ nm : String, (Cond.classLink own z.catchType nm).before args s = true ∧ va_Nc E nm s)) (hcell : H[q]? = some ce) (hv : ce.vm = .none) (hcl : s.vm.findClass E = some ce.cls)
    (hx : ∀ t : State, t.heap = H → s.vm.Alike t.vm → XC E s t) (hf : ∀ z ∈ locs, free z.base) (hc : cells ≤ mc) (hs : slots ≤ ms) :
    vx_W p l e R s m args below meth c H locs cells slots (vx_MQ below Qc XC args s mc ms free) (F0 m pc ls rest) q := by
  intro T hT X
  have hpl : e.platform.magicAccessors = ({} : Platform).magicAccessors := by rw [X.admits.platform]
  obtain ⟨vm', hW', X', st⟩ := X.outThrough hlocks q (g := F0 m pc ls rest) rfl rfl rfl (cell := ce) (by rw [hT]; exact hcell) (by rw [hv]; rfl)
    (by obtain ⟨k9, h9, -⟩ := Vm.findClass_spec hcl; exact ⟨k9, h9⟩) (fun z hz => by
      rcases hpass z hz with h | ⟨hz0, nm, hl1, hn1⟩
      · exact Or.inl h
      · obtain ⟨c6, hc6, hcl6⟩ := Cond.classLink_spec hown hl1 e.platform hpl
        obtain ⟨a8, b8, h1, h2, h3⟩ := hn1
        cases Option.some.inj (h1.symm.trans hcl)
        cases Option.some.inj (h2.symm.trans hc6)
        exact Or.inr ⟨hz0, _, hcl6, h3⟩)
  obtain ⟨g₀, hfr⟩ := X'.frames_eq
  have hcell9 : ((T.setVm vm').setFrames (.throwing q :: below)).heap[q]? = some ce := by
    show T.heap[q]? = some ce
    rw [hT]; exact hcell
  have hend : Ended ((T.setVm vm').setFrames (.throwing q :: below)) below (.threw q) := State.frames_setFrames _ (State.cur_lt_of_frames hfr)
  refine ⟨(T.setVm vm').setFrames (.throwing q :: below), ?_, .threw q, X'.here.running, hend, Or.inr ⟨q, rfl, E, ce, locs, hx _ hT (X'.ends _).1.alike, hcell9, hv, hcl, (X'.ends _).1, (X'.ends _).2.mono hc hs, hf⟩⟩
  rw [X.pushThrowing_eq]
  exact st
/-- a thing of a world lies in the heap -/
theorem vx_lt {D : va_G} {cl : List vw_C} {ws : va_W} {H1 : Heap} (h : va_P D cl ws H1) {k : Nat} {q : Nat × va_E} (hk : ws[k]? = some q) : q.1 < H1.size := (h k q hk).lt
end VXS
/-! ===== END ===== -/
/-! ===== BEGIN methods with a table of their own: called by a name, returning or throwing ===== -/
section VXH
/-! vx_backW, vx_callVX, vx_callSX, vx_callVW, vx_runVW, vx_runVX, vx_runSX, vx_ofWH follow the same proofs as their sisters above (Free/Laws.lean, Shelf42/LK1.lean); vx_outP calls Shelf42/NT130.lean (outThrough). -/
section
variable {l : Launch} {R : Room} {p : Program} {e : Env} {below : List Frame} {s : State} {sargs : Array Value} {y : MethodName} {len W9 : Nat}
theorem vx_backW {ws : List Cond} {rm : Room} {Pc : Array Value → State → Prop} {Qc : Array Value → State → Outcome → State → Prop} {XC : String → State → State → Prop} {mc ms : Nat} {free : Addr → Prop} {bytes : ByteArray} {maxL : Nat} {ret : Option FieldType} {hh : List (Nat × Nat × Nat × Nat)}
    (hM : vx_Met l y ws rm Pc Qc XC mc ms free) (hblind : FrameBlind Pc) (hrc : rm.cells = mc) (hrs : rm.slots = ms)
    (hframes : rm.frames + 1 ≤ R.frames) (hlocals : W9 + (maxL + 11) + rm.locals ≤ R.locals)
    (hws : ∀ w ∈ ws, ∀ a' U, s.WarmedH U.vm → w.before a' U = true) (hcode : Cond.codeWith y bytes maxL ret hh ∈ ws) (hinit : ∀ a' U, s.WarmedH U.vm → (Cond.initialized y.cls).before a' U = true) :
    vx_Back l R p e below s sargs y len W9 (PreOf R mc ms Pc) (PostOf Qc mc ms free) (vx_Post XC mc ms free) := by
  intro m meth c A g ig mk a X hg hsize hdg hW hn hp
  have h1 : (headSpec ws rm).pre.before a A.U = true := atoms_intro fun w hw => hws w hw _ _ X.warmed
  have h2 : (Cond.codeWith y bytes maxL ret hh).before a A.U = true := hws _ hcode _ _ X.warmed
  have h3 : (Cond.initialized y.cls).before a A.U = true := hinit _ _ X.warmed
  have h4 : A.cells + (headSpec ws rm).room.cells ≤ R.cells := by rw [show (headSpec ws rm).room.cells = mc from hrc]; exact hp.1
  have h5 : A.slots + (headSpec ws rm).room.slots ≤ R.slots := by rw [show (headSpec ws rm).room.slots = ms from hrs]; exact hp.2.1
  have hPc : Pc a (A.U.calling g mk a) := hblind _ _ _ _ hp.2.2
  obtain ⟨U, Ls, c0, s0⟩ := A
  dsimp only [Pt.U, Pt.locs, Pt.cells, Pt.slots] at h1 h2 h3 h4 h5 X hn hPc ⊢
  obtain ⟨m9, methY, cY, hn9, hmY, hcY, -, hlY, -⟩ := Cond.codeWith_spec h2
  cases Option.some.inj (hn9.symm.trans hn)
  obtain ⟨kY, hkY, -⟩ := className_of_methodNamed hn
  have hinitY : kY.init = .initialized := Cond.initialized_spec (findClass_of_methodNamed hn) hkY h3
  have h : At U g.method c below := by rw [hg]; exact X.here
  have hlocals9 : W9 + (maxL + 11) + (headSpec ws rm).room.locals ≤ R.locals := hlocals
  have happ : (headSpec ws rm).appliesLoose y e.platform (U.calling g mk a) = true :=
    Spec.appliesLoose_calling (g := g) h hdg hn hkY hinitY
      (X.room_calling (g := g) (R' := (headSpec ws rm).room) hsize hmY hcY hframes (by rw [hlY]; omega) h4 h5) h1
  obtain ⟨mid, hmid⟩ := h.above
  have hfr : (U.setTop g).frames = (.java g :: mid) ++ below := by rw [State.frames_setTop' g h.top, hmid]; rfl
  obtain ⟨o, s₂, hsteps, -, hend, hq⟩ := Steps.callFree hM p X.admits X.cas X.clock (acts := []) hfr happ hPc trivial
  have hq' : vx_Q Qc XC mc ms free a (U.calling g mk a) o s₂ := hq
  rw [State.frames_setTop' g h.top] at hend
  obtain ⟨g₀, hg0⟩ := Option.isSome_iff_exists.mp h.top
  obtain ⟨r, hr⟩ := State.topJava?_eq_some.mp hg0
  have hr' : (({ U with heap := s₂.heap, slotsUsed := s₂.slotsUsed } : State).setVm s₂.vm).frames = .java g₀ :: r := hr
  rcases hq' with ⟨hqc, L, hfe, hL⟩ | ⟨q, rfl, E, ce, L, hx, hce, hcv, hcl, hW₂, hsm, hL⟩
  · obtain ⟨⟨v, rfl⟩, hW₂, e2, q2, q3, q4, q5, q6⟩ := id hfe
    have e3 : s₂ = ({ (U.calling g mk a).setFrames s₂.frames with heap := s₂.heap, slotsUsed := s₂.slotsUsed } : State).setVm s₂.vm := by
      have : s₂ = ({ s₂ with vm := (U.calling g mk a).vm } : State).setVm s₂.vm := rfl
      rw [e2] at this
      exact this
    obtain ⟨c₂, i₂, len₂, hc₂, hd₂, hf₂⟩ := hend
    have hW' : U.WarmedH s₂.vm := hW₂
    have hcc : c₂ = c := by
      have h1 : s₂.code? g.method = U.code? g.method := by
        rw [State.code?_eq, State.code?_eq, hW'.alike.method?]
      exact Option.some.inj (hc₂.symm.trans (h1.trans h.code))
    subst hcc
    have hlen : len₂ = len := by rw [hdg] at hd₂; cases hd₂; rfl
    subst hlen
    have hs₂ : s₂ = (({ U with heap := s₂.heap, slotsUsed := s₂.slotsUsed } : State).setVm s₂.vm).setTop { g with pc := g.pc + len₂, stack := v.toList ++ g.stack } := by
      refine e3.trans ?_
      rw [hf₂, State.calling_eq h.top, State.setFrames_setFrames, State.setTop_of_frames _ hr', hr]
      rfl
    have hsame : U.sameButNew ({ U with heap := s₂.heap, slotsUsed := s₂.slotsUsed } : State) L mc ms := by
      refine ⟨?_, q2, q3, q4, q5, q6⟩
      obtain ⟨t, ht, -⟩ := State.frames_cons hr
      show ({ U with heap := s₂.heap, slotsUsed := s₂.slotsUsed } : State) = { U.setFrames U.frames with heap := s₂.heap, slotsUsed := s₂.slotsUsed }
      rw [State.setFrames_self ht]
    subst hg
    refine Or.inl ⟨v, ⟨(({ U with heap := s₂.heap, slotsUsed := s₂.slotsUsed } : State).setVm s₂.vm), Ls ++ L, c0 + mc, s0 + ms⟩,
      ⟨X.admits, X.cas, X.clock, X.frames, X.room, X.hears, X.method, X.code, (X.here.setHeapUsed s₂.heap s₂.slotsUsed).setVm hW'.alike, X.tail, State.WarmedH.trans X.warmed hW', X.limits, X.bytes, X.same.trans (hsame.setVm s.vm)⟩,
      ⟨g, mk, s₂, L, rfl, rfl, hqc, rfl, hL, rfl, rfl⟩, ?_⟩
    show Steps p.tables e below _ ((({ U with heap := s₂.heap, slotsUsed := s₂.slotsUsed } : State).setVm s₂.vm).setTop { g with pc := g.pc + len₂, stack := v.toList ++ g.stack })
    rw [← hs₂]
    exact hsteps
  · obtain ⟨e2, q2, q3, q4, q5, q6⟩ := id hsm
    have e3 : s₂ = ({ (U.calling g mk a).setFrames s₂.frames with heap := s₂.heap, slotsUsed := s₂.slotsUsed } : State).setVm s₂.vm := by
      have : s₂ = ({ s₂ with vm := (U.calling g mk a).vm } : State).setVm s₂.vm := rfl
      rw [e2] at this
      exact this
    have hf₂ : s₂.frames = .throwing q :: .java g :: U.frames.tail := hend
    have hW' : U.WarmedH s₂.vm := hW₂
    have hs₂ : s₂ = ((({ U with heap := s₂.heap, slotsUsed := s₂.slotsUsed } : State).setVm s₂.vm).setTop g).pushFrame (.throwing q) := by
      refine e3.trans ?_
      rw [hf₂, State.calling_eq h.top, State.setFrames_setFrames, State.pushFrame, State.frames_setTop _ hr', State.setTop_of_frames _ hr', State.setFrames_setFrames, hr]
      rfl
    have hsame : U.sameButNew ({ U with heap := s₂.heap, slotsUsed := s₂.slotsUsed } : State) L mc ms := by
      refine ⟨?_, q2, q3, q4, q5, q6⟩
      obtain ⟨t, ht, -⟩ := State.frames_cons hr
      show ({ U with heap := s₂.heap, slotsUsed := s₂.slotsUsed } : State) = { U.setFrames U.frames with heap := s₂.heap, slotsUsed := s₂.slotsUsed }
      rw [State.setFrames_self ht]
    subst hg
    refine Or.inr ⟨q, ⟨(({ U with heap := s₂.heap, slotsUsed := s₂.slotsUsed } : State).setVm s₂.vm), Ls ++ L, c0 + mc, s0 + ms⟩,
      ⟨X.admits, X.cas, X.clock, X.frames, X.room, X.hears, X.method, X.code, (X.here.setHeapUsed s₂.heap s₂.slotsUsed).setVm hW'.alike, X.tail, State.WarmedH.trans X.warmed hW', X.limits, X.bytes, X.same.trans (hsame.setVm s.vm)⟩,
      ⟨g, mk, s₂, L, E, ce, rfl, rfl, hx, hce, hcv, hcl, rfl, hL, rfl, rfl⟩, ?_⟩
    show Steps p.tables e below _ (((({ U with heap := s₂.heap, slotsUsed := s₂.slotsUsed } : State).setVm s₂.vm).setTop g).pushFrame (.throwing q))
    rw [← hs₂]
    exact hsteps
end
variable {p : Program} {l : Launch} {e : Env} {R : Room} {s : State} {m : MethodId} {args : Array Value} {below : List Frame} {meth : Method} {c : Code} {T : State} {H : Heap} {locs : List Loc} {cells slots : Nat}
theorem vx_callVX (X : Stand p l e R s m args below meth c T locs cells slots) (hexec : p.tables.exec = Jvm.exec) {own C : String} {index : Nat} {y : MethodName} {bytes : ByteArray} {maxL : Nat} {ret : Option FieldType} {hh : List (Nat × Nat × Nat × Nat)}
    (hown : s.vm.findClass own = some m.cls) (hlink : (Cond.methodLink own index y).before args s = true) (hinst : (Cond.instanceMethod y).before args s = true) (hsel : (Cond.selects C y y).before args s = true)
    (hcode : (Cond.codeWith y bytes maxL ret hh).before args s = true) (hy : y.cls ≠ "java/lang/invoke/MethodHandle" ∧ y.cls ≠ "java/lang/invoke/VarHandle")
    {W9 : Nat} {Pre : Pt → Array Value → Prop} {Post : Pt → Array Value → Option Value → Pt → Prop} {PostX : Pt → Array Value → Addr → Pt → Prop} (hK : vx_Back l R p e below s args y 3 W9 Pre Post PostX)
    {b : Addr} {cellB : Cell} (hcell : T.heap[b]? = some cellB) (hobj : cellB.vm.isStatics = false) (hcls : s.vm.findClass C = some cellB.cls)
    {g : JFrame} (hg : g.method = m) (hsize : g.locals.size = c.maxLocals) {argsL rest : List Value} (hlen : ∀ sig, parseMethodDescriptor y.desc = some sig → argsL.length = sig.parameters.length)
    (hstack : g.stack = argsL.reverse ++ .ref b :: rest) (hW : 2 * g.monitorRoom + (rest.map fun v => v.category).sum ≤ W9) (hdg : decode c.code g.pc = .ok (.invokevirtual index, 3))
    (hpre : ∀ vm₁, s.WarmedH vm₁ → Pre ⟨T.setVm vm₁, locs, cells, slots⟩ (Value.ref b :: argsL).toArray) :
    (∃ (v : Option Value) (vm₁ : Vm) (B : Pt), s.WarmedH vm₁ ∧ Stand p l e R s m args below meth c B.U B.locs B.cells B.slots ∧ Post ⟨T.setVm vm₁, locs, cells, slots⟩ (Value.ref b :: argsL).toArray v B ∧
      ∀ target, Steps p.tables e below (B.U.setTop { g with pc := g.pc + 3, stack := v.toList ++ rest }) target → Steps p.tables e below (T.setTop g) target) ∨
    (∃ (q : Addr) (vm₁ : Vm) (B : Pt), s.WarmedH vm₁ ∧ Stand p l e R s m args below meth c B.U B.locs B.cells B.slots ∧ PostX ⟨T.setVm vm₁, locs, cells, slots⟩ (Value.ref b :: argsL).toArray q B ∧
      Steps p.tables e below (T.setTop g) ((B.U.setTop { g with stack := rest }).pushFrame (.throwing q))) := by
  obtain ⟨mk, methM, hnamed, hmethM, hstM, habM⟩ := Cond.instanceMethod_spec hinst
  obtain ⟨m8, methM', cM, hn8, hmethM', -, -, -, -, -, -, hsigM⟩ := Cond.codeWith_spec hcode
  cases Option.some.inj (hn8.symm.trans hnamed)
  cases hmethM.symm.trans hmethM'
  obtain ⟨c2, r2, m2, q1, q2, q3, q4, kP, hkP, hkPi⟩ := Cond.selects_spec hsel
  cases hcls.symm.trans q1
  cases (State.methodFound?_of_named hnamed hy).symm.trans q2
  cases hnamed.symm.trans q3
  have hselP : selectMethod e.platform s.vm cellB.cls mk = .method mk := by rw [Launch.admits_selectMethod X.admits]; exact q4
  obtain ⟨vm₁, X₁, hstep₁⟩ := X.invokevirtual hexec hown hlink hnamed hmethM hstM hkP hkPi hy (a := b) (cell := cellB) hcell
    (fun z h => by rw [h] at hobj; cases hobj) hselP hmethM habM hkP hkPi (g := g) hg (argsL := argsL) (rest := rest) (hlen _ hsigM) hstack hdg
  rcases hK m meth c ⟨T.setVm vm₁, locs, cells, slots⟩ { g with stack := rest } (.invokevirtual index) mk (Value.ref b :: argsL).toArray X₁ hg hsize hdg hW (X₁.named hnamed) (hpre vm₁ X₁.warmed) with ⟨v, B, X', hpost, hsteps⟩ | ⟨q, B, X', hpost, hsteps⟩
  · exact Or.inl ⟨v, vm₁, B, X₁.warmed, X', hpost, fun target h => hstep₁ _ fun acts => by rw [doInvoke_state]; exact hsteps.trans h⟩
  · exact Or.inr ⟨q, vm₁, B, X₁.warmed, X', hpost, hstep₁ _ fun acts => by rw [doInvoke_state]; exact hsteps⟩
theorem vx_callSX (X : Stand p l e R s m args below meth c T locs cells slots) (hexec : p.tables.exec = Jvm.exec) {own : String} {index : Nat} {y : MethodName} {bytes : ByteArray} {maxL : Nat} {ret : Option FieldType} {hh : List (Nat × Nat × Nat × Nat)}
    (hown : s.vm.findClass own = some m.cls) (hlink : (Cond.methodLink own index y).before args s = true) (hstat : (Cond.static y).before args s = true) (hinit : (Cond.initialized y.cls).before args s = true)
    (hcode : (Cond.codeWith y bytes maxL ret hh).before args s = true) (hy : y.cls ≠ "java/lang/invoke/MethodHandle" ∧ y.cls ≠ "java/lang/invoke/VarHandle")
    {W9 : Nat} {Pre : Pt → Array Value → Prop} {Post : Pt → Array Value → Option Value → Pt → Prop} {PostX : Pt → Array Value → Addr → Pt → Prop} (hK : vx_Back l R p e below s args y 3 W9 Pre Post PostX)
    {g : JFrame} (hg : g.method = m) (hsize : g.locals.size = c.maxLocals) {argsL rest : List Value} (hlen : ∀ sig, parseMethodDescriptor y.desc = some sig → argsL.length = sig.parameters.length)
    (hstack : g.stack = argsL.reverse ++ rest) (hW : 2 * g.monitorRoom + (rest.map fun v => v.category).sum ≤ W9) (hdg : decode c.code g.pc = .ok (.invokestatic index, 3))
    (hpre : ∀ vm₁, s.WarmedH vm₁ → Pre ⟨T.setVm vm₁, locs, cells, slots⟩ argsL.toArray) :
    (∃ (v : Option Value) (vm₁ : Vm) (B : Pt), s.WarmedH vm₁ ∧ Stand p l e R s m args below meth c B.U B.locs B.cells B.slots ∧ Post ⟨T.setVm vm₁, locs, cells, slots⟩ argsL.toArray v B ∧
      ∀ target, Steps p.tables e below (B.U.setTop { g with pc := g.pc + 3, stack := v.toList ++ rest }) target → Steps p.tables e below (T.setTop g) target) ∨
    (∃ (q : Addr) (vm₁ : Vm) (B : Pt), s.WarmedH vm₁ ∧ Stand p l e R s m args below meth c B.U B.locs B.cells B.slots ∧ PostX ⟨T.setVm vm₁, locs, cells, slots⟩ argsL.toArray q B ∧
      Steps p.tables e below (T.setTop g) ((B.U.setTop { g with stack := rest }).pushFrame (.throwing q))) := by
  obtain ⟨mk, methM, cM, hnamed, hmethM, -, -, -, -, -, -, hsigM⟩ := Cond.codeWith_spec hcode
  have hstatic : methM.isStatic = true := Cond.static_spec hnamed hmethM hstat
  obtain ⟨kP, hkP, -⟩ := className_of_methodNamed hnamed
  have hinitP : kP.init = .initialized := Cond.initialized_spec (findClass_of_methodNamed hnamed) hkP hinit
  obtain ⟨vm₁, X₁, hstep₁⟩ := X.invokestatic hexec hown hlink hnamed hmethM hstatic hkP hinitP hy (g := g) hg (argsL := argsL) (rest := rest) (hlen _ hsigM) hstack hdg
  rcases hK m meth c ⟨T.setVm vm₁, locs, cells, slots⟩ { g with stack := rest } (.invokestatic index) mk argsL.toArray X₁ hg hsize hdg hW (X₁.named hnamed) (hpre vm₁ X₁.warmed) with ⟨v, B, X', hpost, hsteps⟩ | ⟨q, B, X', hpost, hsteps⟩
  · exact Or.inl ⟨v, vm₁, B, X₁.warmed, X', hpost, fun target h => hstep₁ _ fun acts => by rw [doInvoke_state]; exact hsteps.trans h⟩
  · exact Or.inr ⟨q, vm₁, B, X₁.warmed, X', hpost, hstep₁ _ fun acts => by rw [doInvoke_state]; exact hsteps⟩
theorem vx_callVW (X : Stand p l e R s m args below meth c T locs cells slots) (hexec : p.tables.exec = Jvm.exec) {own C : String} {index : Nat} {y : MethodName} {bytes : ByteArray} {maxL : Nat} {ret : Option FieldType} {hh : List (Nat × Nat × Nat × Nat)}
    (hown : s.vm.findClass own = some m.cls) (hlink : (Cond.methodLink own index y).before args s = true) (hinst : (Cond.instanceMethod y).before args s = true) (hsel : (Cond.selects C y y).before args s = true)
    (hcode : (Cond.codeWith y bytes maxL ret hh).before args s = true) (hy : y.cls ≠ "java/lang/invoke/MethodHandle" ∧ y.cls ≠ "java/lang/invoke/VarHandle")
    {W9 : Nat} {Pre : Pt → Array Value → Prop} {Post : Pt → Array Value → Option Value → Pt → Prop} (hK : Back l R p e below s args y 3 W9 Pre Post)
    {b : Addr} {cellB : Cell} (hcell : T.heap[b]? = some cellB) (hobj : cellB.vm.isStatics = false) (hcls : s.vm.findClass C = some cellB.cls)
    {g : JFrame} (hg : g.method = m) (hsize : g.locals.size = c.maxLocals) {argsL rest : List Value} (hlen : ∀ sig, parseMethodDescriptor y.desc = some sig → argsL.length = sig.parameters.length)
    (hstack : g.stack = argsL.reverse ++ .ref b :: rest) (hW : 2 * g.monitorRoom + (rest.map fun v => v.category).sum ≤ W9) (hdg : decode c.code g.pc = .ok (.invokevirtual index, 3))
    (hpre : ∀ vm₁, s.WarmedH vm₁ → Pre ⟨T.setVm vm₁, locs, cells, slots⟩ (Value.ref b :: argsL).toArray) :
    ∃ (v : Option Value) (vm₁ : Vm) (B : Pt), s.WarmedH vm₁ ∧ Stand p l e R s m args below meth c B.U B.locs B.cells B.slots ∧ Post ⟨T.setVm vm₁, locs, cells, slots⟩ (Value.ref b :: argsL).toArray v B ∧
      ∀ target, Steps p.tables e below (B.U.setTop { g with pc := g.pc + 3, stack := v.toList ++ rest }) target → Steps p.tables e below (T.setTop g) target := by
  obtain ⟨mk, methM, hnamed, hmethM, hstM, habM⟩ := Cond.instanceMethod_spec hinst
  obtain ⟨m8, methM', cM, hn8, hmethM', -, -, -, -, -, -, hsigM⟩ := Cond.codeWith_spec hcode
  cases Option.some.inj (hn8.symm.trans hnamed)
  cases hmethM.symm.trans hmethM'
  obtain ⟨c2, r2, m2, q1, q2, q3, q4, kP, hkP, hkPi⟩ := Cond.selects_spec hsel
  cases hcls.symm.trans q1
  cases (State.methodFound?_of_named hnamed hy).symm.trans q2
  cases hnamed.symm.trans q3
  have hselP : selectMethod e.platform s.vm cellB.cls mk = .method mk := by rw [Launch.admits_selectMethod X.admits]; exact q4
  obtain ⟨vm₁, X₁, hstep₁⟩ := X.invokevirtual hexec hown hlink hnamed hmethM hstM hkP hkPi hy (a := b) (cell := cellB) hcell
    (fun z h => by rw [h] at hobj; cases hobj) hselP hmethM habM hkP hkPi (g := g) hg (argsL := argsL) (rest := rest) (hlen _ hsigM) hstack hdg
  obtain ⟨v, B, X', hpost, hsteps⟩ := hK m meth c ⟨T.setVm vm₁, locs, cells, slots⟩ { g with stack := rest } (.invokevirtual index) mk (Value.ref b :: argsL).toArray X₁ hg hsize hdg hW (X₁.named hnamed) (hpre vm₁ X₁.warmed)
  exact ⟨v, vm₁, B, X₁.warmed, X', hpost, fun target h => hstep₁ _ fun acts => by rw [doInvoke_state]; exact hsteps.trans h⟩
abbrev vx_CVW (R : Room) (s : State) (args : Array Value) (own C : String) (index : Nat) (y : MethodName) (bytes : ByteArray) (maxL : Nat) (ret : Option FieldType) (hh : List (Nat × Nat × Nat × Nat)) (ws : List Cond) (rm : Room) (mc ms n : Nat) : Prop :=
  (rm.cells = mc ∧ rm.slots = ms ∧ rm.frames + 1 ≤ R.frames ∧ 8 + (maxL + 11) + rm.locals ≤ R.locals ∧ (∀ w ∈ ws, ∀ (a' : Array Value) (U : State), s.WarmedH U.vm → w.before a' U = true) ∧ Cond.codeWith y bytes maxL ret hh ∈ ws) ∧
  (Cond.codeWith y bytes maxL ret hh).before args s = true ∧ (Cond.initialized y.cls).before args s = true ∧ (y.cls ≠ "java/lang/invoke/MethodHandle" ∧ y.cls ≠ "java/lang/invoke/VarHandle") ∧
  (∀ sig, parseMethodDescriptor y.desc = some sig → n = sig.parameters.length) ∧ (Cond.methodLink own index y).before args s = true ∧ (Cond.instanceMethod y).before args s = true ∧ (Cond.selects C y y).before args s = true
theorem vx_cwVW {own C : String} {index maxL mc ms : Nat} {y : MethodName} {bytes : ByteArray} {ret : Option FieldType} {hh : List (Nat × Nat × Nat × Nat)} {Ts ws ws' : List Cond} {rm : Room} (n : Nat) (ht : ∀ w ∈ Ts, w.before args s = true) (hT : GoodIn Ts (wsV own index C y ws)) (hw : ws = Cond.codeWith y bytes maxL ret hh :: ws') (hrc : rm.cells = mc) (hrs : rm.slots = ms)
    (hd : y.cls = C ∧ y.cls ≠ "java/lang/invoke/MethodHandle" ∧ y.cls ≠ "java/lang/invoke/VarHandle" ∧ (parseMethodDescriptor y.desc).map (fun d => d.parameters.length) = some n) (hR : rm.frames + 1 ≤ R.frames ∧ 8 + (maxL + 11) + rm.locals ≤ R.locals) :
    vx_CVW R s args own C index y bytes maxL ret hh ws rm mc ms n := by
  obtain ⟨hC, hd⟩ := hd
  subst hC
  have ok : ∀ w ∈ wsV own index y.cls y ws, w.before args s = true := fun w h => ht w (hT w h).1
  have hG : GoodIn Ts ws := fun w h => hT w (by unfold wsV; exact List.mem_append_right _ h)
  have hc : Cond.codeWith y bytes maxL ret hh ∈ ws := by rw [hw]; exact List.mem_cons_self
  refine ⟨⟨hrc, hrs, hR.1, hR.2, pay_in ht hG, hc⟩, ht _ (hG _ hc).1, ok _ (by simp [wsV]), ⟨hd.1, hd.2.1⟩, fun sig h => ?_, ok _ (by simp [wsV]), ok _ (by simp [wsV]), ok _ (by simp [wsV])⟩
  have h2 := hd.2.2
  rw [h] at h2
  exact (Option.some.inj h2).symm
theorem vx_runVW {y : MethodName} {bytes cc : ByteArray} {maxL nL mc ms n index : Nat} {ret : Option FieldType} {hh : List (Nat × Nat × Nat × Nat)} {ws : List Cond} {rm : Room} {Pc : Array Value → State → Prop} {Qc : Array Value → State → Outcome → State → Prop} {free : Addr → Prop} {Ts : List Cond} {own C : String} {b : Addr} {As rest : List Value} {g : JFrame}
    (S : CallFix p m c cc nL s args Ts own) (hM : Met l y ws rm Pc Qc mc ms free) (cw : vx_CVW R s args own C index y bytes maxL ret hh ws rm mc ms n) (hp : PreV s H C b Pc As)
    (hg : g.method = m) (hn : As.length = n) (hsize : g.locals.size = nL) (hstack : g.stack = As.reverse ++ .ref b :: rest) (hW : 2 * g.monitorRoom + (rest.map fun v => v.category).sum ≤ 8) (hdg : decode cc g.pc = .ok (.invokevirtual index, 3)) (hf : cells + mc ≤ R.cells ∧ slots + ms ≤ R.slots) :
    va_Run p l e R s m args below meth c H locs cells slots mc ms g rest (Qc (Value.ref b :: As).toArray) free := by
  obtain ⟨⟨hrc, hrs, hfr, hlo, hws, hcw⟩, hcode, hini, hy, hlen, hl, hin, hse⟩ := cw
  have hK : Back l R p e below s args y 3 8 (PreOf R mc ms Pc) (PostOf Qc mc ms free) := va_backW (hh := hh) (bytes := bytes) (maxL := maxL) (ret := ret) hM hp.1 hrc hrs hfr hlo hws hcw (fun a' U hW => word_at hW (Or.inl (by first | rfl | simp [Cond.onTables, Cond.keeps, Cond.steady])) hini)
  obtain ⟨hx, hb, hml, ho, -⟩ := S
  obtain ⟨-, ⟨cellB, hcB, hoB, hclB⟩, hPc⟩ := hp
  intro T hT X
  obtain ⟨v, vm₁, ⟨U', l2, c2, s2⟩, hW₁, X', ⟨g', mk, t, L, e1, e2, hq, h1, hL, h2, h3⟩, st⟩ := vx_callVW X hx (C := C) (hh := hh) (bytes := bytes) (maxL := maxL) (ret := ret) ho hl hin hse hcode hy hK (by rw [hT]; exact hcB) hoB hclB hg (hsize.trans hml.symm) (argsL := As) (rest := rest) (fun sig h => hn.trans (hlen sig h)) hstack hW (by rw [hb]; exact hdg)
    (fun vm₁ hW₁ => ⟨hf.1, hf.2, hPc (T.setVm vm₁) hT hW₁⟩)
  dsimp only [Pt.U, Pt.locs, Pt.cells, Pt.slots] at X' e1 e2 h1 h2 h3 st
  subst h1; subst h2; subst h3
  exact ⟨v, (T.setVm vm₁).calling g' mk (Value.ref b :: As).toArray, t, U', L, hT, X', hL, e1, e2, hq, st⟩
section
variable {y : MethodName} {bytes cc : ByteArray} {maxL nL mc ms n index : Nat} {ret : Option FieldType} {ws : List Cond} {rm : Room} {Pc : Array Value → State → Prop} {Qc : Array Value → State → Outcome → State → Prop} {XC : String → State → State → Prop} {free : Addr → Prop} {Ts : List Cond} {own C : String} {b : Addr} {As rest : List Value} {g : JFrame}
theorem vx_runVX {hh : List (Nat × Nat × Nat × Nat)} (S : CallFix p m c cc nL s args Ts own) (hM : vx_Met l y ws rm Pc Qc XC mc ms free) (cw : vx_CVW R s args own C index y bytes maxL ret hh ws rm mc ms n) (hp : PreV s H C b Pc As)
    (hg : g.method = m) (hn : As.length = n) (hsize : g.locals.size = nL) (hstack : g.stack = As.reverse ++ .ref b :: rest) (hW : 2 * g.monitorRoom + (rest.map fun v => v.category).sum ≤ 8) (hdg : decode cc g.pc = .ok (.invokevirtual index, 3)) (hf : cells + mc ≤ R.cells ∧ slots + ms ≤ R.slots) :
    vx_Run p l e R s m args below meth c H locs cells slots mc ms g rest (Qc (Value.ref b :: As).toArray) XC free := by
  obtain ⟨⟨hrc, hrs, hfr, hlo, hws, hcw⟩, hcode, hini, hy, hlen, hl, hin, hse⟩ := cw
  have hK : vx_Back l R p e below s args y 3 8 (PreOf R mc ms Pc) (PostOf Qc mc ms free) (vx_Post XC mc ms free) := vx_backW (hh := hh) (bytes := bytes) (maxL := maxL) (ret := ret) hM hp.1 hrc hrs hfr hlo hws hcw (fun a' U hW => word_at hW (Or.inl (by first | rfl | simp [Cond.onTables, Cond.keeps, Cond.steady])) hini)
  obtain ⟨hx, hb, hml, ho, -⟩ := S
  obtain ⟨-, ⟨cellB, hcB, hoB, hclB⟩, hPc⟩ := hp
  intro T hT X
  rcases vx_callVX X hx (C := C) (hh := hh) (bytes := bytes) (maxL := maxL) (ret := ret) ho hl hin hse hcode hy hK (by rw [hT]; exact hcB) hoB hclB hg (hsize.trans hml.symm) (argsL := As) (rest := rest) (fun sig h => hn.trans (hlen sig h)) hstack hW (by rw [hb]; exact hdg)
    (fun vm₁ hW₁ => ⟨hf.1, hf.2, hPc (T.setVm vm₁) hT hW₁⟩) with ⟨v, vm₁, ⟨U', l2, c2, s2⟩, hW₁, X', ⟨g', mk, t, L, e1, e2, hq, h1, hL, h2, h3⟩, st⟩ | ⟨q, vm₁, ⟨U', l2, c2, s2⟩, hW₁, X', ⟨g', mk, t, L, E, ce, e1, e2, hq, hce, hcv, hcl, h1, hL, h2, h3⟩, st⟩
  · dsimp only [Pt.U, Pt.locs, Pt.cells, Pt.slots] at X' e1 e2 h1 h2 h3 st
    subst h1; subst h2; subst h3
    exact Or.inl ⟨v, (T.setVm vm₁).calling g' mk (Value.ref b :: As).toArray, t, U', L, hT, X', hL, e1, e2, hq, st⟩
  · dsimp only [Pt.U, Pt.locs, Pt.cells, Pt.slots] at X' e1 e2 h1 h2 h3 st hcl
    subst h1; subst h2; subst h3
    exact Or.inr ⟨q, (T.setVm vm₁).calling g' mk (Value.ref b :: As).toArray, t, U', L, E, ce, hT, X', hL, e1, e2, hq, hce, hcv, vx_cls hW₁ hcl, st⟩
theorem vx_runSX {hh : List (Nat × Nat × Nat × Nat)} (S : CallFix p m c cc nL s args Ts own) (hM : vx_Met l y ws rm Pc Qc XC mc ms free) (cw : vx_CSW R s args own index y bytes maxL ret hh ws rm mc ms n) (hp : PreS s H Pc As)
    (hg : g.method = m) (hn : As.length = n) (hsize : g.locals.size = nL) (hstack : g.stack = As.reverse ++ rest) (hW : 2 * g.monitorRoom + (rest.map fun v => v.category).sum ≤ 8) (hdg : decode cc g.pc = .ok (.invokestatic index, 3)) (hf : cells + mc ≤ R.cells ∧ slots + ms ≤ R.slots) :
    vx_Run p l e R s m args below meth c H locs cells slots mc ms g rest (Qc As.toArray) XC free := by
  obtain ⟨⟨hrc, hrs, hfr, hlo, hws, hcw⟩, hcode, hini, hy, hlen, hl, hstt⟩ := cw
  have hK : vx_Back l R p e below s args y 3 8 (PreOf R mc ms Pc) (PostOf Qc mc ms free) (vx_Post XC mc ms free) := vx_backW (hh := hh) (bytes := bytes) (maxL := maxL) (ret := ret) hM hp.1 hrc hrs hfr hlo hws hcw (fun a' U hW => word_at hW (Or.inl (by first | rfl | simp [Cond.onTables, Cond.keeps, Cond.steady])) hini)
  obtain ⟨hx, hb, hml, ho, -⟩ := S
  intro T hT X
  rcases vx_callSX X hx (hh := hh) (bytes := bytes) (maxL := maxL) (ret := ret) ho hl hstt hini hcode hy hK hg (hsize.trans hml.symm) (argsL := As) (rest := rest) (fun sig h => hn.trans (hlen sig h)) hstack hW (by rw [hb]; exact hdg)
    (fun vm₁ hW₁ => ⟨hf.1, hf.2, hp.2 (T.setVm vm₁) hT hW₁⟩) with ⟨v, vm₁, ⟨U', l2, c2, s2⟩, hW₁, X', ⟨g', mk, t, L, e1, e2, hq, h1, hL, h2, h3⟩, st⟩ | ⟨q, vm₁, ⟨U', l2, c2, s2⟩, hW₁, X', ⟨g', mk, t, L, E, ce, e1, e2, hq, hce, hcv, hcl, h1, hL, h2, h3⟩, st⟩
  · dsimp only [Pt.U, Pt.locs, Pt.cells, Pt.slots] at X' e1 e2 h1 h2 h3 st
    subst h1; subst h2; subst h3
    exact Or.inl ⟨v, (T.setVm vm₁).calling g' mk As.toArray, t, U', L, hT, X', hL, e1, e2, hq, st⟩
  · dsimp only [Pt.U, Pt.locs, Pt.cells, Pt.slots] at X' e1 e2 h1 h2 h3 st hcl
    subst h1; subst h2; subst h3
    exact Or.inr ⟨q, (T.setVm vm₁).calling g' mk As.toArray, t, U', L, E, ce, hT, X', hL, e1, e2, hq, hce, hcv, vx_cls hW₁ hcl, st⟩
end
end VXH
theorem vx_ofWH {l : Launch} {y : MethodName} {ws ws' : List Cond} {rm : Room} {Pc : Array Value → State → Prop} {Qc : Array Value → State → Outcome → State → Prop} {XC : String → State → State → Prop} {mc ms : Nat} {free : Addr → Prop} {cc : ByteArray} {maxL : Nat} {ret : Option FieldType} {hh : List (Nat × Nat × Nat × Nat)}
    (hy : plainName y.cls = true) (hw : ws = Cond.codeWith y cc maxL ret hh :: ws')
    (body : ∀ p e s m args below meth c s₁, BodyLoose p l y (headSpec ws rm) cc maxL ret e s m args below meth c s₁ → c.maxLocals = maxL → Pc args s →
      W p l e (headSpec ws rm).room s m args below meth c s.heap [] 0 0 (vx_MQ below Qc XC args s mc ms free) (entryFrame m args maxL)) : vx_Met l y ws rm Pc Qc XC mc ms free := by
  refine MetFree.of_bodyS (code := cc) (maxLocals := maxL) (ret := ret) hy ?_ ?_
  · intro args s m h hn
    obtain ⟨m9, meth, c, hn9, h1, h2, h3, h4, -, h5, h6, -⟩ := Cond.codeWith_spec (atoms_spec (ws := ws) h _ (by rw [hw]; exact List.mem_cons_self))
    cases hn.symm.trans hn9
    exact ⟨meth, c, h1, h2, h3, h4, h5, h6⟩
  · intro p e s m args below meth c s₁ B hml hP _
    have hh0 : s₁.heap = s.heap := by rw [B.state]; rfl
    obtain ⟨t, a1, o, b1, b2, b3⟩ := body p e s m args below meth c s₁ B hml hP s₁ hh0 (Stand.of_body B)
    exact ⟨t, o, a1, b1, b2, b3⟩
/-! ===== END ===== -/

/-! ===== BEGIN printed: names, fields, word lists, decode rows ===== -/
def RX0 : String := "ManorLoops$Audience"
def TX0 : u_T := fun k => match k with
  | 0 => ("ManorLoops$Audience", "count", "I", false)
  | 1 => ("ManorLoops$Audience", "room", "LManorLoops$Row;", true)
  | 2 => ("ManorLoops$Audience", "habit", "LManorLoops$Row;", true)
  | 3 => ("ManorLoops$Audience", "followed", "LManorLoops$Row;", true)
  | 4 => ("ManorLoops$Audience", "known", "LManorLoops$Row;", true)
  | 5 => ("ManorLoops$Audience", "walks", "LManorLoops$Row;", true)
  | 6 => ("ManorLoops$Audience", "blocked", "LManorLoops$Row;", true)
  | 7 => ("ManorLoops$Audience", "minutesSeen", "LManorLoops$Grid;", true)
  | _ => ("ManorLoops$Audience", "crowd", "LManorLoops$Row;", true)
def tyX0 : Nat → FieldType := fun k => match k with
  | 0 => .int
  | 1 => .object "ManorLoops$Row"
  | 2 => .object "ManorLoops$Row"
  | 3 => .object "ManorLoops$Row"
  | 4 => .object "ManorLoops$Row"
  | 5 => .object "ManorLoops$Row"
  | 6 => .object "ManorLoops$Row"
  | 7 => .object "ManorLoops$Grid"
  | _ => .object "ManorLoops$Row"
abbrev wsX00 : List Cond := u_ws RX0 TX0 9
theorem nmX0 : ∀ a, a < 9 → ∀ b, b < 9 → a ≠ b → (TX0 a).2.1 ≠ (TX0 b).2.1 := by decide +kernel
theorem tyX0_ok : ∀ k, k < 9 → parseFieldDescriptor (TX0 k).2.2.1 = some (tyX0 k) := by decide +kernel
abbrev cX0_init : ByteArray := prog_2_method_1_code
def yX0_init : MethodName := ⟨RX0, "<init>", "()V"⟩
abbrev cX0_copyFrom : ByteArray := prog_2_method_2_code
def yX0_copyFrom : MethodName := ⟨RX0, "copyFrom", "(LManorLoops$Audience;)V"⟩
abbrev cX0_enter : ByteArray := prog_2_method_3_code
def yX0_enter : MethodName := ⟨RX0, "enter", "(I)I"⟩
abbrev cX0_changeHabit : ByteArray := prog_2_method_4_code
def yX0_changeHabit : MethodName := ⟨RX0, "changeHabit", "(III)V"⟩
abbrev cX0_walk : ByteArray := prog_2_method_5_code
def yX0_walk : MethodName := ⟨RX0, "walk", "(II)V"⟩
abbrev cX0_knows : ByteArray := prog_2_method_6_code
def yX0_knows : MethodName := ⟨RX0, "knows", "(II)Z"⟩
abbrev cX0_see : ByteArray := prog_2_method_7_code
def yX0_see : MethodName := ⟨RX0, "see", "(III)V"⟩
abbrev cX0_countKnownBy : ByteArray := prog_2_method_8_code
def yX0_countKnownBy : MethodName := ⟨RX0, "countKnownBy", "(I)I"⟩
abbrev cX0_countKnowing : ByteArray := prog_2_method_9_code
def yX0_countKnowing : MethodName := ⟨RX0, "countKnowing", "(I)I"⟩
abbrev cX0_countKnown : ByteArray := prog_2_method_10_code
def yX0_countKnown : MethodName := ⟨RX0, "countKnown", "()I"⟩
abbrev cX0_knownByAny : ByteArray := prog_2_method_11_code
def yX0_knownByAny : MethodName := ⟨RX0, "knownByAny", "()I"⟩
def RX1 : String := "ManorLoops$Cast"
def TX1 : u_T := fun k => match k with
  | 0 => ("ManorLoops$Cast", "script", "LManorLoops$Script;", true)
  | 1 => ("ManorLoops$Cast", "room", "LManorLoops$Row;", true)
  | 2 => ("ManorLoops$Cast", "player", "LManorLoops$Row;", true)
  | _ => ("ManorLoops$Cast", "walks", "LManorLoops$Row;", true)
def tyX1 : Nat → FieldType := fun k => match k with
  | 0 => .object "ManorLoops$Script"
  | 1 => .object "ManorLoops$Row"
  | 2 => .object "ManorLoops$Row"
  | _ => .object "ManorLoops$Row"
abbrev wsX10 : List Cond := u_ws RX1 TX1 4
theorem nmX1 : ∀ a, a < 4 → ∀ b, b < 4 → a ≠ b → (TX1 a).2.1 ≠ (TX1 b).2.1 := by decide +kernel
theorem tyX1_ok : ∀ k, k < 4 → parseFieldDescriptor (TX1 k).2.2.1 = some (tyX1 k) := by decide +kernel
abbrev cX1_init : ByteArray := prog_3_method_1_code
def yX1_init : MethodName := ⟨RX1, "<init>", "(LManorLoops$Script;)V"⟩
abbrev cX1_copyFrom : ByteArray := prog_3_method_2_code
def yX1_copyFrom : MethodName := ⟨RX1, "copyFrom", "(LManorLoops$Cast;)V"⟩
abbrev cX1_enter : ByteArray := prog_3_method_3_code
def yX1_enter : MethodName := ⟨RX1, "enter", "(II)V"⟩
abbrev cX1_startDouble : ByteArray := prog_3_method_4_code
def yX1_startDouble : MethodName := ⟨RX1, "startDouble", "(II)V"⟩
abbrev cX1_endDouble : ByteArray := prog_3_method_5_code
def yX1_endDouble : MethodName := ⟨RX1, "endDouble", "(I)V"⟩
abbrev cX1_anyIsPlayed : ByteArray := prog_3_method_6_code
def yX1_anyIsPlayed : MethodName := ⟨RX1, "anyIsPlayed", "()Z"⟩
abbrev cX1_rolesOf : ByteArray := prog_3_method_7_code
def yX1_rolesOf : MethodName := ⟨RX1, "rolesOf", "(I)I"⟩
abbrev cX1_isSingle : ByteArray := prog_3_method_8_code
def yX1_isSingle : MethodName := ⟨RX1, "isSingle", "(I)Z"⟩
abbrev cX1_withDoubles : ByteArray := prog_3_method_9_code
def yX1_withDoubles : MethodName := ⟨RX1, "withDoubles", "(I)I"⟩
abbrev cX1_setIn : ByteArray := prog_3_method_10_code
def yX1_setIn : MethodName := ⟨RX1, "setIn", "(I)I"⟩
abbrev cX1_walk : ByteArray := prog_3_method_11_code
def yX1_walk : MethodName := ⟨RX1, "walk", "(II)V"⟩
def RX2 : String := "ManorLoops$Evening"
def TX2 : u_T := fun k => match k with
  | 0 => ("ManorLoops$Evening", "house", "LManorLoops$House;", true)
  | 1 => ("ManorLoops$Evening", "script", "LManorLoops$Script;", true)
  | 2 => ("ManorLoops$Evening", "cast", "LManorLoops$Cast;", true)
  | 3 => ("ManorLoops$Evening", "stage", "LManorLoops$Stage;", true)
  | 4 => ("ManorLoops$Evening", "props", "LManorLoops$Props;", true)
  | 5 => ("ManorLoops$Evening", "audience", "LManorLoops$Audience;", true)
  | 6 => ("ManorLoops$Evening", "passages", "LManorLoops$Row;", true)
  | _ => ("ManorLoops$Evening", "now", "I", false)
def tyX2 : Nat → FieldType := fun k => match k with
  | 0 => .object "ManorLoops$House"
  | 1 => .object "ManorLoops$Script"
  | 2 => .object "ManorLoops$Cast"
  | 3 => .object "ManorLoops$Stage"
  | 4 => .object "ManorLoops$Props"
  | 5 => .object "ManorLoops$Audience"
  | 6 => .object "ManorLoops$Row"
  | _ => .int
abbrev wsX20 : List Cond := u_ws RX2 TX2 8
theorem nmX2 : ∀ a, a < 8 → ∀ b, b < 8 → a ≠ b → (TX2 a).2.1 ≠ (TX2 b).2.1 := by decide +kernel
theorem tyX2_ok : ∀ k, k < 8 → parseFieldDescriptor (TX2 k).2.2.1 = some (tyX2 k) := by decide +kernel
abbrev cX2_init : ByteArray := prog_4_method_1_code
def yX2_init : MethodName := ⟨RX2, "<init>", "(LManorLoops$House;LManorLoops$Script;)V"⟩
abbrev cX2_copyFrom : ByteArray := prog_4_method_2_code
def yX2_copyFrom : MethodName := ⟨RX2, "copyFrom", "(LManorLoops$Evening;)V"⟩
abbrev cX2_run : ByteArray := prog_4_method_3_code
def yX2_run : MethodName := ⟨RX2, "run", "(I)V"⟩
abbrev cX2_beginLoop : ByteArray := prog_4_method_4_code
def yX2_beginLoop : MethodName := ⟨RX2, "beginLoop", "()V"⟩
abbrev cX2_moveTracks : ByteArray := prog_4_method_5_code
def yX2_moveTracks : MethodName := ⟨RX2, "moveTracks", "()V"⟩
abbrev cX2_moveTrack : ByteArray := prog_4_method_6_code
def yX2_moveTrack : MethodName := ⟨RX2, "moveTrack", "(II)V"⟩
abbrev cX2_performScenes : ByteArray := prog_4_method_7_code
def yX2_performScenes : MethodName := ⟨RX2, "performScenes", "()V"⟩
abbrev cX2_continueScene : ByteArray := prog_4_method_8_code
def yX2_continueScene : MethodName := ⟨RX2, "continueScene", "(I)V"⟩
abbrev cX2_greatestTrack : ByteArray := prog_4_method_9_code
def yX2_greatestTrack : MethodName := ⟨RX2, "greatestTrack", "(I)I"⟩
abbrev cX2_canBegin : ByteArray := prog_4_method_10_code
def yX2_canBegin : MethodName := ⟨RX2, "canBegin", "(I)Z"⟩
abbrev cX2_hasProp : ByteArray := prog_4_method_11_code
def yX2_hasProp : MethodName := ⟨RX2, "hasProp", "(I)Z"⟩
abbrev cX2_moveGuests : ByteArray := prog_4_method_12_code
def yX2_moveGuests : MethodName := ⟨RX2, "moveGuests", "()V"⟩
abbrev cX2_moveGuest : ByteArray := prog_4_method_13_code
def yX2_moveGuest : MethodName := ⟨RX2, "moveGuest", "(III)V"⟩
abbrev cX2_isFull : ByteArray := prog_4_method_14_code
def yX2_isFull : MethodName := ⟨RX2, "isFull", "(I)Z"⟩
abbrev cX2_nextRoomOf : ByteArray := prog_4_method_15_code
def yX2_nextRoomOf : MethodName := ⟨RX2, "nextRoomOf", "(II)I"⟩
abbrev cX2_emptierRoom : ByteArray := prog_4_method_16_code
def yX2_emptierRoom : MethodName := ⟨RX2, "emptierRoom", "(I)I"⟩
abbrev cX2_nextRoomToScene : ByteArray := prog_4_method_17_code
def yX2_nextRoomToScene : MethodName := ⟨RX2, "nextRoomToScene", "(II)I"⟩
abbrev cX2_showScenes : ByteArray := prog_4_method_18_code
def yX2_showScenes : MethodName := ⟨RX2, "showScenes", "()V"⟩
abbrev cX2_showScene : ByteArray := prog_4_method_19_code
def yX2_showScene : MethodName := ⟨RX2, "showScene", "(I)V"⟩
abbrev cX2_roomOfProp : ByteArray := prog_4_method_20_code
def yX2_roomOfProp : MethodName := ⟨RX2, "roomOfProp", "(I)I"⟩
abbrev cX2_canTake : ByteArray := prog_4_method_21_code
def yX2_canTake : MethodName := ⟨RX2, "canTake", "(II)Z"⟩
abbrev cX2_isInUse : ByteArray := prog_4_method_22_code
def yX2_isInUse : MethodName := ⟨RX2, "isInUse", "(II)Z"⟩
abbrev cX2_canDouble : ByteArray := prog_4_method_23_code
def yX2_canDouble : MethodName := ⟨RX2, "canDouble", "(II)Z"⟩
def RX3 : String := "ManorLoops$Grid"
def TX3 : u_T := fun k => match k with
  | 0 => ("ManorLoops$Grid", "columns", "I", true)
  | _ => ("ManorLoops$Grid", "cells", "LManorLoops$Row;", true)
def tyX3 : Nat → FieldType := fun k => match k with
  | 0 => .int
  | _ => .object "ManorLoops$Row"
abbrev wsX30 : List Cond := u_ws RX3 TX3 2
theorem nmX3 : ∀ a, a < 2 → ∀ b, b < 2 → a ≠ b → (TX3 a).2.1 ≠ (TX3 b).2.1 := by decide +kernel
theorem tyX3_ok : ∀ k, k < 2 → parseFieldDescriptor (TX3 k).2.2.1 = some (tyX3 k) := by decide +kernel
abbrev cX3_init : ByteArray := prog_5_method_1_code
def yX3_init : MethodName := ⟨RX3, "<init>", "(II)V"⟩
abbrev cX3_get : ByteArray := prog_5_method_2_code
def yX3_get : MethodName := ⟨RX3, "get", "(II)I"⟩
abbrev cX3_set : ByteArray := prog_5_method_3_code
def yX3_set : MethodName := ⟨RX3, "set", "(III)V"⟩
abbrev cX3_fill : ByteArray := prog_5_method_4_code
def yX3_fill : MethodName := ⟨RX3, "fill", "(I)V"⟩
abbrev cX3_copyFrom : ByteArray := prog_5_method_5_code
def yX3_copyFrom : MethodName := ⟨RX3, "copyFrom", "(LManorLoops$Grid;)V"⟩
def RX4 : String := "ManorLoops$House"
def TX4 : u_T := fun k => match k with
  | 0 => ("ManorLoops$House", "rooms", "I", false)
  | 1 => ("ManorLoops$House", "doors", "I", false)
  | 2 => ("ManorLoops$House", "capacity", "LManorLoops$Row;", true)
  | 3 => ("ManorLoops$House", "width", "LManorLoops$Row;", true)
  | 4 => ("ManorLoops$House", "doorBetween", "LManorLoops$Grid;", true)
  | 5 => ("ManorLoops$House", "doorsOnWay", "LManorLoops$Grid;", true)
  | _ => ("ManorLoops$House", "nextOnWay", "LManorLoops$Grid;", true)
def tyX4 : Nat → FieldType := fun k => match k with
  | 0 => .int
  | 1 => .int
  | 2 => .object "ManorLoops$Row"
  | 3 => .object "ManorLoops$Row"
  | 4 => .object "ManorLoops$Grid"
  | 5 => .object "ManorLoops$Grid"
  | _ => .object "ManorLoops$Grid"
abbrev wsX40 : List Cond := u_ws RX4 TX4 7
theorem nmX4 : ∀ a, a < 7 → ∀ b, b < 7 → a ≠ b → (TX4 a).2.1 ≠ (TX4 b).2.1 := by decide +kernel
theorem tyX4_ok : ∀ k, k < 7 → parseFieldDescriptor (TX4 k).2.2.1 = some (tyX4 k) := by decide +kernel
abbrev cX4_init : ByteArray := prog_6_method_1_code
def yX4_init : MethodName := ⟨RX4, "<init>", "()V"⟩
abbrev cX4_addRoom : ByteArray := prog_6_method_2_code
def yX4_addRoom : MethodName := ⟨RX4, "addRoom", "(I)I"⟩
abbrev cX4_addDoor : ByteArray := prog_6_method_3_code
def yX4_addDoor : MethodName := ⟨RX4, "addDoor", "(III)I"⟩
abbrev cX4_shortenWays : ByteArray := prog_6_method_4_code
def yX4_shortenWays : MethodName := ⟨RX4, "shortenWays", "(II)V"⟩
abbrev cX4_shortenWay : ByteArray := prog_6_method_5_code
def yX4_shortenWay : MethodName := ⟨RX4, "shortenWay", "(IIII)V"⟩
abbrev cX4_findNext : ByteArray := prog_6_method_6_code
def yX4_findNext : MethodName := ⟨RX4, "findNext", "(II)I"⟩
def RX5 : String := "ManorLoops$Props"
def TX5 : u_T := fun k => match k with
  | 0 => ("ManorLoops$Props", "script", "LManorLoops$Script;", true)
  | 1 => ("ManorLoops$Props", "room", "LManorLoops$Row;", true)
  | 2 => ("ManorLoops$Props", "track", "LManorLoops$Row;", true)
  | 3 => ("ManorLoops$Props", "guest", "LManorLoops$Row;", true)
  | _ => ("ManorLoops$Props", "readers", "LManorLoops$Row;", true)
def tyX5 : Nat → FieldType := fun k => match k with
  | 0 => .object "ManorLoops$Script"
  | 1 => .object "ManorLoops$Row"
  | 2 => .object "ManorLoops$Row"
  | 3 => .object "ManorLoops$Row"
  | _ => .object "ManorLoops$Row"
abbrev wsX50 : List Cond := u_ws RX5 TX5 5
theorem nmX5 : ∀ a, a < 5 → ∀ b, b < 5 → a ≠ b → (TX5 a).2.1 ≠ (TX5 b).2.1 := by decide +kernel
theorem tyX5_ok : ∀ k, k < 5 → parseFieldDescriptor (TX5 k).2.2.1 = some (tyX5 k) := by decide +kernel
abbrev cX5_init : ByteArray := prog_7_method_1_code
def yX5_init : MethodName := ⟨RX5, "<init>", "(LManorLoops$Script;)V"⟩
abbrev cX5_copyFrom : ByteArray := prog_7_method_2_code
def yX5_copyFrom : MethodName := ⟨RX5, "copyFrom", "(LManorLoops$Props;)V"⟩
abbrev cX5_lay : ByteArray := prog_7_method_3_code
def yX5_lay : MethodName := ⟨RX5, "lay", "(II)V"⟩
abbrev cX5_giveToTrack : ByteArray := prog_7_method_4_code
def yX5_giveToTrack : MethodName := ⟨RX5, "giveToTrack", "(II)V"⟩
abbrev cX5_giveToGuest : ByteArray := prog_7_method_5_code
def yX5_giveToGuest : MethodName := ⟨RX5, "giveToGuest", "(II)V"⟩
abbrev cX5_goHome : ByteArray := prog_7_method_6_code
def yX5_goHome : MethodName := ⟨RX5, "goHome", "()V"⟩
abbrev cX5_heldByGuest : ByteArray := prog_7_method_7_code
def yX5_heldByGuest : MethodName := ⟨RX5, "heldByGuest", "(I)I"⟩
abbrev cX5_lyingIn : ByteArray := prog_7_method_8_code
def yX5_lyingIn : MethodName := ⟨RX5, "lyingIn", "(I)I"⟩
def RX6 : String := "ManorLoops$Row"
def TX6 : u_T := fun k => match k with
  | _ => ("ManorLoops$Row", "cells", "[I", true)
def tyX6 : Nat → FieldType := fun k => match k with
  | _ => .array .int
abbrev wsX60 : List Cond := u_ws RX6 TX6 1
theorem nmX6 : ∀ a, a < 1 → ∀ b, b < 1 → a ≠ b → (TX6 a).2.1 ≠ (TX6 b).2.1 := by decide +kernel
theorem tyX6_ok : ∀ k, k < 1 → parseFieldDescriptor (TX6 k).2.2.1 = some (tyX6 k) := by decide +kernel
abbrev cX6_init : ByteArray := prog_8_method_1_code
def yX6_init : MethodName := ⟨RX6, "<init>", "(I)V"⟩
abbrev cX6_get : ByteArray := prog_8_method_2_code
def yX6_get : MethodName := ⟨RX6, "get", "(I)I"⟩
abbrev cX6_set : ByteArray := prog_8_method_3_code
def yX6_set : MethodName := ⟨RX6, "set", "(II)V"⟩
abbrev cX6_add : ByteArray := prog_8_method_4_code
def yX6_add : MethodName := ⟨RX6, "add", "(II)V"⟩
abbrev cX6_fill : ByteArray := prog_8_method_5_code
def yX6_fill : MethodName := ⟨RX6, "fill", "(I)V"⟩
abbrev cX6_sum : ByteArray := prog_8_method_6_code
def yX6_sum : MethodName := ⟨RX6, "sum", "()I"⟩
abbrev cX6_copyFrom : ByteArray := prog_8_method_7_code
def yX6_copyFrom : MethodName := ⟨RX6, "copyFrom", "(LManorLoops$Row;)V"⟩
def RX7 : String := "ManorLoops$Script"
def TX7 : u_T := fun k => match k with
  | 0 => ("ManorLoops$Script", "tracks", "I", false)
  | 1 => ("ManorLoops$Script", "props", "I", false)
  | 2 => ("ManorLoops$Script", "scenes", "I", false)
  | 3 => ("ManorLoops$Script", "trackHome", "LManorLoops$Row;", true)
  | 4 => ("ManorLoops$Script", "propHome", "LManorLoops$Row;", true)
  | 5 => ("ManorLoops$Script", "room", "LManorLoops$Row;", true)
  | 6 => ("ManorLoops$Script", "start", "LManorLoops$Row;", true)
  | 7 => ("ManorLoops$Script", "length", "LManorLoops$Row;", true)
  | 8 => ("ManorLoops$Script", "roles", "LManorLoops$Row;", true)
  | _ => ("ManorLoops$Script", "prop", "LManorLoops$Row;", true)
def tyX7 : Nat → FieldType := fun k => match k with
  | 0 => .int
  | 1 => .int
  | 2 => .int
  | 3 => .object "ManorLoops$Row"
  | 4 => .object "ManorLoops$Row"
  | 5 => .object "ManorLoops$Row"
  | 6 => .object "ManorLoops$Row"
  | 7 => .object "ManorLoops$Row"
  | 8 => .object "ManorLoops$Row"
  | _ => .object "ManorLoops$Row"
abbrev wsX70 : List Cond := u_ws RX7 TX7 10
theorem nmX7 : ∀ a, a < 10 → ∀ b, b < 10 → a ≠ b → (TX7 a).2.1 ≠ (TX7 b).2.1 := by decide +kernel
theorem tyX7_ok : ∀ k, k < 10 → parseFieldDescriptor (TX7 k).2.2.1 = some (tyX7 k) := by decide +kernel
abbrev cX7_init : ByteArray := prog_9_method_1_code
def yX7_init : MethodName := ⟨RX7, "<init>", "()V"⟩
abbrev cX7_addTrack : ByteArray := prog_9_method_2_code
def yX7_addTrack : MethodName := ⟨RX7, "addTrack", "(I)I"⟩
abbrev cX7_addProp : ByteArray := prog_9_method_3_code
def yX7_addProp : MethodName := ⟨RX7, "addProp", "(I)I"⟩
abbrev cX7_addScene : ByteArray := prog_9_method_4_code
def yX7_addScene : MethodName := ⟨RX7, "addScene", "(IIIII)I"⟩
abbrev cX7_areTracks : ByteArray := prog_9_method_5_code
def yX7_areTracks : MethodName := ⟨RX7, "areTracks", "(I)Z"⟩
abbrev cX7_has : ByteArray := prog_9_method_6_code
def yX7_has : MethodName := ⟨RX7, "has", "(II)Z"⟩
abbrev cX7_countScenesOf : ByteArray := prog_9_method_7_code
def yX7_countScenesOf : MethodName := ⟨RX7, "countScenesOf", "(I)I"⟩
abbrev cX7_overlapsSceneOf : ByteArray := prog_9_method_8_code
def yX7_overlapsSceneOf : MethodName := ⟨RX7, "overlapsSceneOf", "(III)Z"⟩
abbrev cX7_overlap : ByteArray := prog_9_method_9_code
def yX7_overlap : MethodName := ⟨RX7, "overlap", "(II)Z"⟩
def RX8 : String := "ManorLoops$Stage"
def TX8 : u_T := fun k => match k with
  | 0 => ("ManorLoops$Stage", "script", "LManorLoops$Script;", true)
  | 1 => ("ManorLoops$Stage", "phase", "LManorLoops$Row;", true)
  | 2 => ("ManorLoops$Stage", "left", "LManorLoops$Row;", true)
  | 3 => ("ManorLoops$Stage", "late", "LManorLoops$Row;", true)
  | 4 => ("ManorLoops$Stage", "doneEver", "LManorLoops$Row;", true)
  | 5 => ("ManorLoops$Stage", "cutEver", "LManorLoops$Row;", true)
  | _ => ("ManorLoops$Stage", "lateEver", "I", false)
def tyX8 : Nat → FieldType := fun k => match k with
  | 0 => .object "ManorLoops$Script"
  | 1 => .object "ManorLoops$Row"
  | 2 => .object "ManorLoops$Row"
  | 3 => .object "ManorLoops$Row"
  | 4 => .object "ManorLoops$Row"
  | 5 => .object "ManorLoops$Row"
  | _ => .int
abbrev wsX80 : List Cond := u_ws RX8 TX8 7
theorem nmX8 : ∀ a, a < 7 → ∀ b, b < 7 → a ≠ b → (TX8 a).2.1 ≠ (TX8 b).2.1 := by decide +kernel
theorem tyX8_ok : ∀ k, k < 7 → parseFieldDescriptor (TX8 k).2.2.1 = some (tyX8 k) := by decide +kernel
abbrev cX8_init : ByteArray := prog_10_method_1_code
def yX8_init : MethodName := ⟨RX8, "<init>", "(LManorLoops$Script;)V"⟩
abbrev cX8_copyFrom : ByteArray := prog_10_method_2_code
def yX8_copyFrom : MethodName := ⟨RX8, "copyFrom", "(LManorLoops$Stage;)V"⟩
abbrev cX8_runs : ByteArray := prog_10_method_3_code
def yX8_runs : MethodName := ⟨RX8, "runs", "(I)Z"⟩
abbrev cX8_waits : ByteArray := prog_10_method_4_code
def yX8_waits : MethodName := ⟨RX8, "waits", "(I)Z"⟩
abbrev cX8_restart : ByteArray := prog_10_method_5_code
def yX8_restart : MethodName := ⟨RX8, "restart", "()V"⟩
abbrev cX8_cut : ByteArray := prog_10_method_6_code
def yX8_cut : MethodName := ⟨RX8, "cut", "(I)V"⟩
abbrev cX8_begin : ByteArray := prog_10_method_7_code
def yX8_begin : MethodName := ⟨RX8, "begin", "(I)V"⟩
abbrev cX8_delay : ByteArray := prog_10_method_8_code
def yX8_delay : MethodName := ⟨RX8, "delay", "(I)V"⟩
abbrev cX8_goOn : ByteArray := prog_10_method_9_code
def yX8_goOn : MethodName := ⟨RX8, "goOn", "(I)V"⟩
abbrev cX8_busyTracks : ByteArray := prog_10_method_10_code
def yX8_busyTracks : MethodName := ⟨RX8, "busyTracks", "()I"⟩
abbrev cX8_nextSceneOf : ByteArray := prog_10_method_11_code
def yX8_nextSceneOf : MethodName := ⟨RX8, "nextSceneOf", "(I)I"⟩
abbrev cX8_runningWith : ByteArray := prog_10_method_12_code
def yX8_runningWith : MethodName := ⟨RX8, "runningWith", "(I)I"⟩
abbrev cX8_runningIn : ByteArray := prog_10_method_13_code
def yX8_runningIn : MethodName := ⟨RX8, "runningIn", "(I)I"⟩
abbrev cX8_countRunning : ByteArray := prog_10_method_14_code
def yX8_countRunning : MethodName := ⟨RX8, "countRunning", "()I"⟩
def RX9 : String := "ManorLoops"
def TX9 : u_T := fun k => match k with
  | 0 => ("ManorLoops", "house", "LManorLoops$House;", true)
  | 1 => ("ManorLoops", "script", "LManorLoops$Script;", true)
  | 2 => ("ManorLoops", "actual", "LManorLoops$Evening;", true)
  | _ => ("ManorLoops", "trial", "LManorLoops$Evening;", true)
def tyX9 : Nat → FieldType := fun k => match k with
  | 0 => .object "ManorLoops$House"
  | 1 => .object "ManorLoops$Script"
  | 2 => .object "ManorLoops$Evening"
  | _ => .object "ManorLoops$Evening"
abbrev wsX90 : List Cond := u_ws RX9 TX9 4
theorem nmX9 : ∀ a, a < 4 → ∀ b, b < 4 → a ≠ b → (TX9 a).2.1 ≠ (TX9 b).2.1 := by decide +kernel
theorem tyX9_ok : ∀ k, k < 4 → parseFieldDescriptor (TX9 k).2.2.1 = some (tyX9 k) := by decide +kernel
abbrev cX9_init : ByteArray := prog_1_method_1_code
def yX9_init : MethodName := ⟨RX9, "<init>", "()V"⟩
abbrev cX9_room : ByteArray := prog_1_method_2_code
def yX9_room : MethodName := ⟨RX9, "room", "(I)I"⟩
abbrev cX9_door : ByteArray := prog_1_method_3_code
def yX9_door : MethodName := ⟨RX9, "door", "(III)I"⟩
abbrev cX9_track : ByteArray := prog_1_method_4_code
def yX9_track : MethodName := ⟨RX9, "track", "(I)I"⟩
abbrev cX9_prop : ByteArray := prog_1_method_5_code
def yX9_prop : MethodName := ⟨RX9, "prop", "(I)I"⟩
abbrev cX9_scene : ByteArray := prog_1_method_6_code
def yX9_scene : MethodName := ⟨RX9, "scene", "(IIIII)I"⟩
abbrev cX9_guest : ByteArray := prog_1_method_7_code
def yX9_guest : MethodName := ⟨RX9, "guest", "(I)I"⟩
abbrev cX9_habit : ByteArray := prog_1_method_8_code
def yX9_habit : MethodName := ⟨RX9, "habit", "(III)I"⟩
abbrev cX9_pass : ByteArray := prog_1_method_9_code
def yX9_pass : MethodName := ⟨RX9, "pass", "(I)I"⟩
abbrev cX9_take : ByteArray := prog_1_method_10_code
def yX9_take : MethodName := ⟨RX9, "take", "(II)I"⟩
abbrev cX9_leave : ByteArray := prog_1_method_11_code
def yX9_leave : MethodName := ⟨RX9, "leave", "(I)I"⟩
abbrev cX9_play : ByteArray := prog_1_method_12_code
def yX9_play : MethodName := ⟨RX9, "play", "(II)I"⟩
abbrev cX9_part : ByteArray := prog_1_method_13_code
def yX9_part : MethodName := ⟨RX9, "part", "(I)I"⟩
abbrev cX9_ofRoom : ByteArray := prog_1_method_14_code
def yX9_ofRoom : MethodName := ⟨RX9, "ofRoom", "(II)I"⟩
abbrev cX9_way : ByteArray := prog_1_method_15_code
def yX9_way : MethodName := ⟨RX9, "way", "(III)I"⟩
abbrev cX9_ofTrack : ByteArray := prog_1_method_16_code
def yX9_ofTrack : MethodName := ⟨RX9, "ofTrack", "(II)I"⟩
abbrev cX9_ofScene : ByteArray := prog_1_method_17_code
def yX9_ofScene : MethodName := ⟨RX9, "ofScene", "(II)I"⟩
abbrev cX9_ofGuest : ByteArray := prog_1_method_18_code
def yX9_ofGuest : MethodName := ⟨RX9, "ofGuest", "(II)I"⟩
abbrev cX9_ofProp : ByteArray := prog_1_method_19_code
def yX9_ofProp : MethodName := ⟨RX9, "ofProp", "(II)I"⟩
abbrev cX9_seen : ByteArray := prog_1_method_20_code
def yX9_seen : MethodName := ⟨RX9, "seen", "(II)I"⟩
abbrev cX9_many : ByteArray := prog_1_method_21_code
def yX9_many : MethodName := ⟨RX9, "many", "(I)I"⟩
abbrev cX9_meanKnown : ByteArray := prog_1_method_22_code
def yX9_meanKnown : MethodName := ⟨RX9, "meanKnown", "()D"⟩
abbrev cX9_wouldKnow : ByteArray := prog_1_method_23_code
def yX9_wouldKnow : MethodName := ⟨RX9, "wouldKnow", "(II)I"⟩
abbrev cX9_bestHabit : ByteArray := prog_1_method_24_code
def yX9_bestHabit : MethodName := ⟨RX9, "bestHabit", "(II)I"⟩
abbrev cX9_wouldCut : ByteArray := prog_1_method_25_code
def yX9_wouldCut : MethodName := ⟨RX9, "wouldCut", "(I)I"⟩
abbrev cX9_doubles : ByteArray := prog_1_method_26_code
def yX9_doubles : MethodName := ⟨RX9, "doubles", "(I)I"⟩
abbrev cX9_digest : ByteArray := prog_1_method_27_code
def yX9_digest : MethodName := ⟨RX9, "digest", "()J"⟩
abbrev cX9_fold : ByteArray := prog_1_method_28_code
def yX9_fold : MethodName := ⟨RX9, "fold", "(JJ)J"⟩
abbrev cX9_foldRooms : ByteArray := prog_1_method_29_code
def yX9_foldRooms : MethodName := ⟨RX9, "foldRooms", "(J)J"⟩
abbrev cX9_foldTracks : ByteArray := prog_1_method_30_code
def yX9_foldTracks : MethodName := ⟨RX9, "foldTracks", "(J)J"⟩
abbrev cX9_foldScenes : ByteArray := prog_1_method_31_code
def yX9_foldScenes : MethodName := ⟨RX9, "foldScenes", "(J)J"⟩
abbrev cX9_foldProps : ByteArray := prog_1_method_32_code
def yX9_foldProps : MethodName := ⟨RX9, "foldProps", "(J)J"⟩
abbrev cX9_foldGuests : ByteArray := prog_1_method_33_code
def yX9_foldGuests : MethodName := ⟨RX9, "foldGuests", "(J)J"⟩
abbrev cX9_countCutsOfTrial : ByteArray := prog_1_method_34_code
def yX9_countCutsOfTrial : MethodName := ⟨RX9, "countCutsOfTrial", "()I"⟩
abbrev cX9_standsForHabit : ByteArray := prog_1_method_35_code
def yX9_standsForHabit : MethodName := ⟨RX9, "standsForHabit", "(I)Z"⟩
abbrev cX9_habitBehind : ByteArray := prog_1_method_36_code
def yX9_habitBehind : MethodName := ⟨RX9, "habitBehind", "(I)I"⟩
abbrev cX9_checkRoom : ByteArray := prog_1_method_37_code
def yX9_checkRoom : MethodName := ⟨RX9, "checkRoom", "(I)V"⟩
abbrev cX9_checkTrack : ByteArray := prog_1_method_38_code
def yX9_checkTrack : MethodName := ⟨RX9, "checkTrack", "(I)V"⟩
abbrev cX9_checkProp : ByteArray := prog_1_method_39_code
def yX9_checkProp : MethodName := ⟨RX9, "checkProp", "(I)V"⟩
abbrev cX9_checkScene : ByteArray := prog_1_method_40_code
def yX9_checkScene : MethodName := ⟨RX9, "checkScene", "(I)V"⟩
abbrev cX9_checkGuest : ByteArray := prog_1_method_41_code
def yX9_checkGuest : MethodName := ⟨RX9, "checkGuest", "(I)V"⟩
abbrev cX9_checkWhat : ByteArray := prog_1_method_42_code
def yX9_checkWhat : MethodName := ⟨RX9, "checkWhat", "(II)V"⟩
abbrev cX9_checkMinutes : ByteArray := prog_1_method_43_code
def yX9_checkMinutes : MethodName := ⟨RX9, "checkMinutes", "(II)V"⟩
abbrev cX9_checkTime : ByteArray := prog_1_method_44_code
def yX9_checkTime : MethodName := ⟨RX9, "checkTime", "(II)V"⟩
def RX10 : String := "ManorLoopsModel$House"
def TX10 : u_T := fun k => match k with
  | 0 => ("ManorLoopsModel$House", "capacity", "[I", true)
  | 1 => ("ManorLoopsModel$House", "width", "[[I", true)
  | 2 => ("ManorLoopsModel$House", "far", "[[I", true)
  | 3 => ("ManorLoopsModel$House", "tracks", "[[I", true)
  | 4 => ("ManorLoopsModel$House", "props", "[[I", true)
  | 5 => ("ManorLoopsModel$House", "scenes", "[[I", true)
  | 6 => ("ManorLoopsModel$House", "guests", "[[I", true)
  | 7 => ("ManorLoopsModel$House", "seen", "[[I", true)
  | 8 => ("ManorLoopsModel$House", "now", "I", false)
  | 9 => ("ManorLoopsModel$House", "rooms", "I", false)
  | 10 => ("ManorLoopsModel$House", "doors", "I", false)
  | 11 => ("ManorLoopsModel$House", "trackCount", "I", false)
  | 12 => ("ManorLoopsModel$House", "propCount", "I", false)
  | 13 => ("ManorLoopsModel$House", "sceneCount", "I", false)
  | 14 => ("ManorLoopsModel$House", "guestCount", "I", false)
  | _ => ("ManorLoopsModel$House", "late", "I", false)
def tyX10 : Nat → FieldType := fun k => match k with
  | 0 => .array .int
  | 1 => .array (.array .int)
  | 2 => .array (.array .int)
  | 3 => .array (.array .int)
  | 4 => .array (.array .int)
  | 5 => .array (.array .int)
  | 6 => .array (.array .int)
  | 7 => .array (.array .int)
  | 8 => .int
  | 9 => .int
  | 10 => .int
  | 11 => .int
  | 12 => .int
  | 13 => .int
  | 14 => .int
  | _ => .int
abbrev wsX100 : List Cond := u_ws RX10 TX10 16
theorem nmX10 : ∀ a, a < 16 → ∀ b, b < 16 → a ≠ b → (TX10 a).2.1 ≠ (TX10 b).2.1 := by decide +kernel
theorem tyX10_ok : ∀ k, k < 16 → parseFieldDescriptor (TX10 k).2.2.1 = some (tyX10 k) := by decide +kernel
abbrev cX10_init : ByteArray := prog_13_method_1_code
def yX10_init : MethodName := ⟨RX10, "<init>", "()V"⟩
abbrev cX10_copy : ByteArray := prog_13_method_2_code
def yX10_copy : MethodName := ⟨RX10, "copy", "()LManorLoopsModel$House;"⟩
abbrev cX10_rows : ByteArray := prog_13_method_3_code
def yX10_rows : MethodName := ⟨RX10, "rows", "([[I[[I)V"⟩
abbrev cX10_measure : ByteArray := prog_13_method_4_code
def yX10_measure : MethodName := ⟨RX10, "measure", "()V"⟩
abbrev cX10_next : ByteArray := prog_13_method_5_code
def yX10_next : MethodName := ⟨RX10, "next", "(II)I"⟩
abbrev cX10_minute : ByteArray := prog_13_method_6_code
def yX10_minute : MethodName := ⟨RX10, "minute", "()I"⟩
abbrev cX10_roomOf : ByteArray := prog_13_method_7_code
def yX10_roomOf : MethodName := ⟨RX10, "roomOf", "(I)I"⟩
abbrev cX10_runs : ByteArray := prog_13_method_8_code
def yX10_runs : MethodName := ⟨RX10, "runs", "(I)I"⟩
abbrev cX10_plays : ByteArray := prog_13_method_9_code
def yX10_plays : MethodName := ⟨RX10, "plays", "(I)I"⟩
abbrev cX10_isBusy : ByteArray := prog_13_method_10_code
def yX10_isBusy : MethodName := ⟨RX10, "isBusy", "(I)Z"⟩
abbrev cX10_nextScene : ByteArray := prog_13_method_11_code
def yX10_nextScene : MethodName := ⟨RX10, "nextScene", "(I)I"⟩
abbrev cX10_guestsIn : ByteArray := prog_13_method_12_code
def yX10_guestsIn : MethodName := ⟨RX10, "guestsIn", "(I)I"⟩
abbrev cX10_runningIn : ByteArray := prog_13_method_13_code
def yX10_runningIn : MethodName := ⟨RX10, "runningIn", "(I)I"⟩
abbrev cX10_lies : ByteArray := prog_13_method_14_code
def yX10_lies : MethodName := ⟨RX10, "lies", "(II)Z"⟩
abbrev cX10_go : ByteArray := prog_13_method_15_code
def yX10_go : MethodName := ⟨RX10, "go", "()I"⟩
abbrev cX10_loop : ByteArray := prog_13_method_16_code
def yX10_loop : MethodName := ⟨RX10, "loop", "()V"⟩
abbrev cX10_walk : ByteArray := prog_13_method_17_code
def yX10_walk : MethodName := ⟨RX10, "walk", "([II)V"⟩
abbrev cX10_run : ByteArray := prog_13_method_18_code
def yX10_run : MethodName := ⟨RX10, "run", "([I)I"⟩
abbrev cX10_attend : ByteArray := prog_13_method_19_code
def yX10_attend : MethodName := ⟨RX10, "attend", "([I)V"⟩
abbrev cX10_wish : ByteArray := prog_13_method_20_code
def yX10_wish : MethodName := ⟨RX10, "wish", "([I)I"⟩
abbrev cX10_wander : ByteArray := prog_13_method_21_code
def yX10_wander : MethodName := ⟨RX10, "wander", "(I)I"⟩
abbrev cX10_move : ByteArray := prog_13_method_22_code
def yX10_move : MethodName := ⟨RX10, "move", "([II[[I)V"⟩
abbrev cX10_show : ByteArray := prog_13_method_23_code
def yX10_show : MethodName := ⟨RX10, "show", "(I)V"⟩
abbrev cX10_sum : ByteArray := prog_13_method_24_code
def yX10_sum : MethodName := ⟨RX10, "sum", "([[III)I"⟩
abbrev cX10_known : ByteArray := prog_13_method_25_code
def yX10_known : MethodName := ⟨RX10, "known", "(I)I"⟩
abbrev cX10_overlap : ByteArray := prog_13_method_26_code
def yX10_overlap : MethodName := ⟨RX10, "overlap", "(II)Z"⟩
abbrev cX10_isOverlapped : ByteArray := prog_13_method_27_code
def yX10_isOverlapped : MethodName := ⟨RX10, "isOverlapped", "(II)Z"⟩
abbrev cX10_canPlay : ByteArray := prog_13_method_28_code
def yX10_canPlay : MethodName := ⟨RX10, "canPlay", "(II)Z"⟩
abbrev cX10_scenesOf : ByteArray := prog_13_method_29_code
def yX10_scenesOf : MethodName := ⟨RX10, "scenesOf", "(I)I"⟩
def RX11 : String := "ManorLoopsModel"
def TX11 : u_T := fun k => match k with
  | 0 => ("ManorLoopsModel", "thrown", "I", false)
  | _ => ("ManorLoopsModel", "house", "LManorLoopsModel$House;", true)
def tyX11 : Nat → FieldType := fun k => match k with
  | 0 => .int
  | _ => .object "ManorLoopsModel$House"
abbrev wsX110 : List Cond := u_ws RX11 TX11 2
theorem nmX11 : ∀ a, a < 2 → ∀ b, b < 2 → a ≠ b → (TX11 a).2.1 ≠ (TX11 b).2.1 := by decide +kernel
theorem tyX11_ok : ∀ k, k < 2 → parseFieldDescriptor (TX11 k).2.2.1 = some (tyX11 k) := by decide +kernel
abbrev cX11_init : ByteArray := prog_12_method_1_code
def yX11_init : MethodName := ⟨RX11, "<init>", "()V"⟩
abbrev cX11_thrown : ByteArray := prog_12_method_2_code
def yX11_thrown : MethodName := ⟨RX11, "thrown", "()I"⟩
abbrev cX11_no : ByteArray := prog_12_method_3_code
def yX11_no : MethodName := ⟨RX11, "no", "(I)I"⟩
abbrev cX11_in : ByteArray := prog_12_method_4_code
def yX11_in : MethodName := ⟨RX11, "in", "(III)Z"⟩
abbrev cX11_has : ByteArray := prog_12_method_5_code
def yX11_has : MethodName := ⟨RX11, "has", "(II)Z"⟩
abbrev cX11_size : ByteArray := prog_12_method_6_code
def yX11_size : MethodName := ⟨RX11, "size", "(I)I"⟩
abbrev cX11_isRoom : ByteArray := prog_12_method_7_code
def yX11_isRoom : MethodName := ⟨RX11, "isRoom", "(I)Z"⟩
abbrev cX11_isTrack : ByteArray := prog_12_method_8_code
def yX11_isTrack : MethodName := ⟨RX11, "isTrack", "(I)Z"⟩
abbrev cX11_isProp : ByteArray := prog_12_method_9_code
def yX11_isProp : MethodName := ⟨RX11, "isProp", "(I)Z"⟩
abbrev cX11_isScene : ByteArray := prog_12_method_10_code
def yX11_isScene : MethodName := ⟨RX11, "isScene", "(I)Z"⟩
abbrev cX11_isGuest : ByteArray := prog_12_method_11_code
def yX11_isGuest : MethodName := ⟨RX11, "isGuest", "(I)Z"⟩
abbrev cX11_room : ByteArray := prog_12_method_12_code
def yX11_room : MethodName := ⟨RX11, "room", "(I)I"⟩
abbrev cX11_door : ByteArray := prog_12_method_13_code
def yX11_door : MethodName := ⟨RX11, "door", "(III)I"⟩
abbrev cX11_track : ByteArray := prog_12_method_14_code
def yX11_track : MethodName := ⟨RX11, "track", "(I)I"⟩
abbrev cX11_prop : ByteArray := prog_12_method_15_code
def yX11_prop : MethodName := ⟨RX11, "prop", "(I)I"⟩
abbrev cX11_scene : ByteArray := prog_12_method_16_code
def yX11_scene : MethodName := ⟨RX11, "scene", "(IIIII)I"⟩
abbrev cX11_guest : ByteArray := prog_12_method_17_code
def yX11_guest : MethodName := ⟨RX11, "guest", "(I)I"⟩
abbrev cX11_habit : ByteArray := prog_12_method_18_code
def yX11_habit : MethodName := ⟨RX11, "habit", "(III)I"⟩
abbrev cX11_pass : ByteArray := prog_12_method_19_code
def yX11_pass : MethodName := ⟨RX11, "pass", "(I)I"⟩
abbrev cX11_take : ByteArray := prog_12_method_20_code
def yX11_take : MethodName := ⟨RX11, "take", "(II)I"⟩
abbrev cX11_leave : ByteArray := prog_12_method_21_code
def yX11_leave : MethodName := ⟨RX11, "leave", "(I)I"⟩
abbrev cX11_play : ByteArray := prog_12_method_22_code
def yX11_play : MethodName := ⟨RX11, "play", "(II)I"⟩
abbrev cX11_part : ByteArray := prog_12_method_23_code
def yX11_part : MethodName := ⟨RX11, "part", "(I)I"⟩
abbrev cX11_roomNow : ByteArray := prog_12_method_24_code
def yX11_roomNow : MethodName := ⟨RX11, "roomNow", "(II)I"⟩
abbrev cX11_ofRoom : ByteArray := prog_12_method_25_code
def yX11_ofRoom : MethodName := ⟨RX11, "ofRoom", "(II)I"⟩
abbrev cX11_wayNow : ByteArray := prog_12_method_26_code
def yX11_wayNow : MethodName := ⟨RX11, "wayNow", "(III)I"⟩
abbrev cX11_way : ByteArray := prog_12_method_27_code
def yX11_way : MethodName := ⟨RX11, "way", "(III)I"⟩
abbrev cX11_trackNow : ByteArray := prog_12_method_28_code
def yX11_trackNow : MethodName := ⟨RX11, "trackNow", "(II)I"⟩
abbrev cX11_ofTrack : ByteArray := prog_12_method_29_code
def yX11_ofTrack : MethodName := ⟨RX11, "ofTrack", "(II)I"⟩
abbrev cX11_sceneNow : ByteArray := prog_12_method_30_code
def yX11_sceneNow : MethodName := ⟨RX11, "sceneNow", "(II)I"⟩
abbrev cX11_ofScene : ByteArray := prog_12_method_31_code
def yX11_ofScene : MethodName := ⟨RX11, "ofScene", "(II)I"⟩
abbrev cX11_guestNow : ByteArray := prog_12_method_32_code
def yX11_guestNow : MethodName := ⟨RX11, "guestNow", "(II)I"⟩
abbrev cX11_ofGuest : ByteArray := prog_12_method_33_code
def yX11_ofGuest : MethodName := ⟨RX11, "ofGuest", "(II)I"⟩
abbrev cX11_propNow : ByteArray := prog_12_method_34_code
def yX11_propNow : MethodName := ⟨RX11, "propNow", "(II)I"⟩
abbrev cX11_ofProp : ByteArray := prog_12_method_35_code
def yX11_ofProp : MethodName := ⟨RX11, "ofProp", "(II)I"⟩
abbrev cX11_seen : ByteArray := prog_12_method_36_code
def yX11_seen : MethodName := ⟨RX11, "seen", "(II)I"⟩
abbrev cX11_manyNow : ByteArray := prog_12_method_37_code
def yX11_manyNow : MethodName := ⟨RX11, "manyNow", "(I)I"⟩
abbrev cX11_many : ByteArray := prog_12_method_38_code
def yX11_many : MethodName := ⟨RX11, "many", "(I)I"⟩
abbrev cX11_meanKnown : ByteArray := prog_12_method_39_code
def yX11_meanKnown : MethodName := ⟨RX11, "meanKnown", "()D"⟩
abbrev cX11_knowNow : ByteArray := prog_12_method_40_code
def yX11_knowNow : MethodName := ⟨RX11, "knowNow", "(LManorLoopsModel$House;II)I"⟩
abbrev cX11_wouldKnow : ByteArray := prog_12_method_41_code
def yX11_wouldKnow : MethodName := ⟨RX11, "wouldKnow", "(II)I"⟩
abbrev cX11_bestHabit : ByteArray := prog_12_method_42_code
def yX11_bestHabit : MethodName := ⟨RX11, "bestHabit", "(II)I"⟩
abbrev cX11_cutNow : ByteArray := prog_12_method_43_code
def yX11_cutNow : MethodName := ⟨RX11, "cutNow", "(I)I"⟩
abbrev cX11_wouldCut : ByteArray := prog_12_method_44_code
def yX11_wouldCut : MethodName := ⟨RX11, "wouldCut", "(I)I"⟩
abbrev cX11_doublesNow : ByteArray := prog_12_method_45_code
def yX11_doublesNow : MethodName := ⟨RX11, "doublesNow", "(I)I"⟩
abbrev cX11_doubles : ByteArray := prog_12_method_46_code
def yX11_doubles : MethodName := ⟨RX11, "doubles", "(I)I"⟩
abbrev cX11_digest : ByteArray := prog_12_method_47_code
def yX11_digest : MethodName := ⟨RX11, "digest", "()J"⟩
def RJx145de : String := "java/io/Serializable"
def TJx145de : u_T := fun k => match k with
  | _ => ("", "", "", false)
def tyJx145de : Nat → FieldType := fun k => match k with
  | _ => .int
abbrev wsJx145de0 : List Cond := u_ws RJx145de TJx145de 0
theorem nmJx145de : ∀ a, a < 0 → ∀ b, b < 0 → a ≠ b → (TJx145de a).2.1 ≠ (TJx145de b).2.1 := by decide +kernel
theorem tyJx145de_ok : ∀ k, k < 0 → parseFieldDescriptor (TJx145de k).2.2.1 = some (tyJx145de k) := by decide +kernel
def RJ6 : String := "java/lang/Integer"
def TJ6 : u_T := fun k => match k with
  | _ => ("", "", "", false)
def tyJ6 : Nat → FieldType := fun k => match k with
  | _ => .int
abbrev wsJ60 : List Cond := u_ws RJ6 TJ6 0
theorem nmJ6 : ∀ a, a < 0 → ∀ b, b < 0 → a ≠ b → (TJ6 a).2.1 ≠ (TJ6 b).2.1 := by decide +kernel
theorem tyJ6_ok : ∀ k, k < 0 → parseFieldDescriptor (TJ6 k).2.2.1 = some (tyJ6 k) := by decide +kernel
abbrev cJ6_bitCount_0f7a4 : ByteArray := prog_18_method_49_code
def yJ6_bitCount_0f7a4 : MethodName := ⟨RJ6, "bitCount", "(I)I"⟩
def RJ9 : String := "java/lang/Math"
def TJ9 : u_T := fun k => match k with
  | _ => ("", "", "", false)
def tyJ9 : Nat → FieldType := fun k => match k with
  | _ => .int
abbrev wsJ90 : List Cond := u_ws RJ9 TJ9 0
theorem nmJ9 : ∀ a, a < 0 → ∀ b, b < 0 → a ≠ b → (TJ9 a).2.1 ≠ (TJ9 b).2.1 := by decide +kernel
theorem tyJ9_ok : ∀ k, k < 0 → parseFieldDescriptor (TJ9 k).2.2.1 = some (tyJ9 k) := by decide +kernel
abbrev cJ9_max_7cf53 : ByteArray := prog_19_method_65_code
def yJ9_max_7cf53 : MethodName := ⟨RJ9, "max", "(II)I"⟩
abbrev cJ9_min_7cf53 : ByteArray := prog_19_method_69_code
def yJ9_min_7cf53 : MethodName := ⟨RJ9, "min", "(II)I"⟩
def RJ0 : String := "java/lang/String"
def TJ0 : u_T := fun k => match k with
  | _ => ("", "", "", false)
def tyJ0 : Nat → FieldType := fun k => match k with
  | _ => .int
abbrev wsJ00 : List Cond := u_ws RJ0 TJ0 0
theorem nmJ0 : ∀ a, a < 0 → ∀ b, b < 0 → a ≠ b → (TJ0 a).2.1 ≠ (TJ0 b).2.1 := by decide +kernel
theorem tyJ0_ok : ∀ k, k < 0 → parseFieldDescriptor (TJ0 k).2.2.1 = some (tyJ0 k) := by decide +kernel
def RJ10 : String := "java/lang/System"
def TJ10 : u_T := fun k => match k with
  | _ => ("", "", "", false)
def tyJ10 : Nat → FieldType := fun k => match k with
  | _ => .int
abbrev wsJ100 : List Cond := u_ws RJ10 TJ10 0
theorem nmJ10 : ∀ a, a < 0 → ∀ b, b < 0 → a ≠ b → (TJ10 a).2.1 ≠ (TJ10 b).2.1 := by decide +kernel
theorem tyJ10_ok : ∀ k, k < 0 → parseFieldDescriptor (TJ10 k).2.2.1 = some (tyJ10 k) := by decide +kernel
def RJ7 : String := "java/util/Arrays"
def TJ7 : u_T := fun k => match k with
  | _ => ("", "", "", false)
def tyJ7 : Nat → FieldType := fun k => match k with
  | _ => .int
abbrev wsJ70 : List Cond := u_ws RJ7 TJ7 0
theorem nmJ7 : ∀ a, a < 0 → ∀ b, b < 0 → a ≠ b → (TJ7 a).2.1 ≠ (TJ7 b).2.1 := by decide +kernel
theorem tyJ7_ok : ∀ k, k < 0 → parseFieldDescriptor (TJ7 k).2.2.1 = some (tyJ7 k) := by decide +kernel
abbrev cJ7_fill_53178 : ByteArray := prog_24_method_103_code
def yJ7_fill_53178 : MethodName := ⟨RJ7, "fill", "([II)V"⟩
def RL : String := "ManorLoopsLaw"
abbrev cL_room : ByteArray := method_3_code
def yL_room : MethodName := ⟨RL, "room", "(LManorLoops;I[J)I"⟩
abbrev cL_door : ByteArray := method_4_code
def yL_door : MethodName := ⟨RL, "door", "(LManorLoops;III[J)I"⟩
abbrev cL_track : ByteArray := method_5_code
def yL_track : MethodName := ⟨RL, "track", "(LManorLoops;I[J)I"⟩
abbrev cL_prop : ByteArray := method_6_code
def yL_prop : MethodName := ⟨RL, "prop", "(LManorLoops;I[J)I"⟩
abbrev cL_scene : ByteArray := method_7_code
def yL_scene : MethodName := ⟨RL, "scene", "(LManorLoops;IIIII[J)I"⟩
abbrev cL_guest : ByteArray := method_8_code
def yL_guest : MethodName := ⟨RL, "guest", "(LManorLoops;I[J)I"⟩
abbrev cL_habit : ByteArray := method_9_code
def yL_habit : MethodName := ⟨RL, "habit", "(LManorLoops;III[J)I"⟩
abbrev cL_pass : ByteArray := method_10_code
def yL_pass : MethodName := ⟨RL, "pass", "(LManorLoops;I[J)I"⟩
abbrev cL_take : ByteArray := method_11_code
def yL_take : MethodName := ⟨RL, "take", "(LManorLoops;II[J)I"⟩
abbrev cL_leave : ByteArray := method_12_code
def yL_leave : MethodName := ⟨RL, "leave", "(LManorLoops;I[J)I"⟩
abbrev cL_play : ByteArray := method_13_code
def yL_play : MethodName := ⟨RL, "play", "(LManorLoops;II[J)I"⟩
abbrev cL_part : ByteArray := method_14_code
def yL_part : MethodName := ⟨RL, "part", "(LManorLoops;I[J)I"⟩
abbrev cL_ofRoom : ByteArray := method_15_code
def yL_ofRoom : MethodName := ⟨RL, "ofRoom", "(LManorLoops;II[J)I"⟩
abbrev cL_way : ByteArray := method_16_code
def yL_way : MethodName := ⟨RL, "way", "(LManorLoops;III[J)I"⟩
abbrev cL_ofTrack : ByteArray := method_17_code
def yL_ofTrack : MethodName := ⟨RL, "ofTrack", "(LManorLoops;II[J)I"⟩
abbrev cL_ofScene : ByteArray := method_18_code
def yL_ofScene : MethodName := ⟨RL, "ofScene", "(LManorLoops;II[J)I"⟩
abbrev cL_ofGuest : ByteArray := method_19_code
def yL_ofGuest : MethodName := ⟨RL, "ofGuest", "(LManorLoops;II[J)I"⟩
abbrev cL_ofProp : ByteArray := method_20_code
def yL_ofProp : MethodName := ⟨RL, "ofProp", "(LManorLoops;II[J)I"⟩
abbrev cL_seen : ByteArray := method_21_code
def yL_seen : MethodName := ⟨RL, "seen", "(LManorLoops;II[J)I"⟩
abbrev cL_many : ByteArray := method_22_code
def yL_many : MethodName := ⟨RL, "many", "(LManorLoops;I[J)I"⟩
abbrev cL_wouldKnow : ByteArray := method_23_code
def yL_wouldKnow : MethodName := ⟨RL, "wouldKnow", "(LManorLoops;II[J)I"⟩
abbrev cL_bestHabit : ByteArray := method_24_code
def yL_bestHabit : MethodName := ⟨RL, "bestHabit", "(LManorLoops;II[J)I"⟩
abbrev cL_wouldCut : ByteArray := method_25_code
def yL_wouldCut : MethodName := ⟨RL, "wouldCut", "(LManorLoops;I[J)I"⟩
abbrev cL_doubles : ByteArray := method_26_code
def yL_doubles : MethodName := ⟨RL, "doubles", "(LManorLoops;I[J)I"⟩
abbrev cL_law : ByteArray := code
def yL_law : MethodName := ⟨RL, "law", "([I)Z"⟩
theorem inX0 : ∀ w ∈ wsX00, w ∈ lw_tbl := by decide +kernel
theorem inX1 : ∀ w ∈ wsX10, w ∈ lw_tbl := by decide +kernel
theorem inX2 : ∀ w ∈ wsX20, w ∈ lw_tbl := by decide +kernel
theorem inX3 : ∀ w ∈ wsX30, w ∈ lw_tbl := by decide +kernel
theorem inX4 : ∀ w ∈ wsX40, w ∈ lw_tbl := by decide +kernel
theorem inX5 : ∀ w ∈ wsX50, w ∈ lw_tbl := by decide +kernel
theorem inX6 : ∀ w ∈ wsX60, w ∈ lw_tbl := by decide +kernel
theorem inX7 : ∀ w ∈ wsX70, w ∈ lw_tbl := by decide +kernel
theorem inX8 : ∀ w ∈ wsX80, w ∈ lw_tbl := by decide +kernel
theorem inX9 : ∀ w ∈ wsX90, w ∈ lw_tbl := by decide +kernel
theorem inX10 : ∀ w ∈ wsX100, w ∈ lw_tbl := by decide +kernel
theorem inX11 : ∀ w ∈ wsX110, w ∈ lw_tbl := by decide +kernel
theorem inJx145de : ∀ w ∈ wsJx145de0, w ∈ lw_tbl := by decide +kernel
theorem inJ6 : ∀ w ∈ wsJ60, w ∈ lw_tbl := by decide +kernel
theorem inJ9 : ∀ w ∈ wsJ90, w ∈ lw_tbl := by decide +kernel
theorem inJ0 : ∀ w ∈ wsJ00, w ∈ lw_tbl := by decide +kernel
theorem inJ10 : ∀ w ∈ wsJ100, w ∈ lw_tbl := by decide +kernel
theorem inJ7 : ∀ w ∈ wsJ70, w ∈ lw_tbl := by decide +kernel
abbrev vwCl : List vw_C := [(RX0, TX0, 9), (RX1, TX1, 4), (RX2, TX2, 8), (RX3, TX3, 2), (RX4, TX4, 7), (RX5, TX5, 5), (RX6, TX6, 1), (RX7, TX7, 10), (RX8, TX8, 7), (RX9, TX9, 4), (RX10, TX10, 16), (RX11, TX11, 2)]
end
section
/-! MZ: the machine over a memory of numbered cells. One list of words serves every method. -/
/-- the words that every method may use -/
def mz_ws : List Cond := lw_tbl.filter goodWord
theorem mz_ws_tbl {w : Cond} (h : w ∈ mz_ws) : w ∈ lw_tbl := (List.mem_filter.mp h).1
theorem mz_ws_good {w : Cond} (h : w ∈ mz_ws) : goodWord w = true := (List.mem_filter.mp h).2
theorem mz_in {w : Cond} (i : Nat) (h : lw_tbl[i]? = some w) (g : goodWord w = true) : w ∈ mz_ws := List.mem_filter.mpr ⟨List.mem_of_getElem? h, g⟩
theorem mz_good {y : MethodName} {cc : ByteArray} {nL : Nat} {ret : Option FieldType} (h : Cond.code y cc nL ret ∈ mz_ws) : GoodIn mz_ws (Cond.code y cc nL ret :: mz_ws) := by
  intro w hw
  have h2 : w ∈ mz_ws := by
    rcases List.mem_cons.mp hw with rfl | hw
    · exact h
    · exact hw
  exact ⟨h2, good_of_word (mz_ws_good h2)⟩
/-- words of nest mates: the tables keep them, warm or cold -/
def mz_nest : Cond → Bool
  | .fieldLinkNest _ _ _ _ _ _ => true
  | .methodLinkNest _ _ _ _ => true
  | .castable _ _ => true
  | .declares _ => true
  | _ => false
def mz_wn : List Cond := lw_tbl.filter mz_nest
theorem mz_inn {w : Cond} (i : Nat) (h : lw_tbl[i]? = some w) (g : mz_nest w = true) : w ∈ mz_wn := List.mem_filter.mpr ⟨List.mem_of_getElem? h, g⟩
theorem mz_nest_tabs {w : Cond} (h : mz_nest w = true) : w.onTables = true := by cases w <;> first | rfl | cases h
theorem mz_nest_warm {w : Cond} (h : mz_nest w = true) {s U : State} (hW : s.WarmedH U.vm) (hZ : va_Nw w s) : va_Nw w U := by
  cases w <;> first | exact va_Nw.warmF hW hZ | exact va_Nw.warmM hW hZ | exact va_Nw.warmC hW hZ | exact va_Nw.warmD hW hZ | cases h
def mz_K (D : va_G) (cl : List vw_C) (tys : List (ClassId × FieldType)) (U : State) : Prop := va_K D cl tys U ∧ ∀ w ∈ mz_wn, va_Nw w U
theorem mz_K.warm {D : va_G} {cl : List vw_C} {tys : List (ClassId × FieldType)} {s U : State} (hW : s.WarmedH U.vm) (h : mz_K D cl tys s) : mz_K D cl tys U :=
  ⟨va_K.moved hW.alike h.1, fun w hw => mz_nest_warm (List.mem_filter.mp hw).2 hW (h.2 w hw)⟩
theorem mz_K.same {D : va_G} {cl : List vw_C} {tys : List (ClassId × FieldType)} {s U : State} (hv : s.vm = U.vm) (h : mz_K D cl tys s) : mz_K D cl tys U :=
  ⟨va_K.moved (by rw [hv]; exact Vm.Alike.refl U.vm) h.1, fun w hw => va_Nw.same (mz_nest_tabs (List.mem_filter.mp hw).2) hv (h.2 w hw)⟩
/-- a cell's shape: an array of n ints; an object of a kind, its fields: an int, null, or the cell of a number -/
abbrev mz_Sh : Type := Nat ⊕ (Nat × List (Option (Option Nat)))
abbrev mz_Mem : Type := Nat → Nat → Int32
/-- a value of numbered cells, at their addresses -/
def mz_e (ρ : Nat → Nat) : Value → Value
  | .ref k => .ref (ρ k)
  | v => v
theorem mz_e_cat (ρ : Nat → Nat) (v : Value) : (mz_e ρ v).category = v.category := by cases v <;> rfl
def mz_L (ρ : Nat → Nat) (L : List (Nat × Value)) : List (Nat × Value) := L.map (fun q => (q.1, mz_e ρ q.2))
theorem mz_L_mem {ρ : Nat → Nat} {L : List (Nat × Value)} {i : Nat} {v : Value} (h : (i, v) ∈ L) : (i, mz_e ρ v) ∈ mz_L ρ L := List.mem_map.mpr ⟨(i, v), h, rfl⟩
def mz_fv (f : Nat → Int32) (j : Nat) : Option (Option Nat) → Value
  | none => .int (f j)
  | some none => .null
  | some (some r) => .ref r
def mz_fs (f : Nat → Int32) (l : List (Option (Option Nat))) : List Value := l.mapIdx (fun j o => mz_fv f j o)
theorem mz_fs_at (f : Nat → Int32) (l : List (Option (Option Nat))) (j : Nat) : (mz_fs f l)[j]? = (l[j]?).map (mz_fv f j) := by
  simp [mz_fs, List.getElem?_mapIdx]
def mz_ent (cA : ClassId) (ρ : Nat → Nat) (M : mz_Mem) (k : Nat) : mz_Sh → va_E
  | .inl n => .inl (cA, n, .inl (M k))
  | .inr o => .inr (o.1, (mz_fs (M k) o.2).map (mz_e ρ))
def mz_H (D : va_G) (cl : List vw_C) (cA : ClassId) (ρ : Nat → Nat) (lay : List (Option mz_Sh)) (M : mz_Mem) (H : Heap) : Prop :=
  ∀ (k : Nat) (sh : mz_Sh), lay[k]? = some (some sh) → va_at D cl (ρ k, mz_ent cA ρ M k sh) H
/-- no two cells at one address -/
def mz_I (ρ : Nat → Nat) (lay : List (Option mz_Sh)) : Prop := ∀ (i j : Nat) (a b : mz_Sh), lay[i]? = some (some a) → lay[j]? = some (some b) → ρ i = ρ j → i = j
/-- the addresses of a memory -/
def mz_A (ρ : Nat → Nat) (lay : List (Option mz_Sh)) : Nat → Prop := fun q => ∃ (k : Nat) (sh : mz_Sh), lay[k]? = some (some sh) ∧ q = ρ k
/-- one cell anew -/
def mz_s (M : mz_Mem) (k : Nat) (f : Nat → Int32) : mz_Mem := fun a => if a = k then f else M a
theorem mz_s_eq (M : mz_Mem) (k : Nat) (f : Nat → Int32) : mz_s M k f k = f := if_pos rfl
theorem mz_s_ne {M : mz_Mem} {k a : Nat} {f : Nat → Int32} (h : a ≠ k) : mz_s M k f a = M a := if_neg h
theorem mz_s_id (M : mz_Mem) (k : Nat) : mz_s M k (M k) = M := by
  funext a
  by_cases h : a = k
  · subst h; exact mz_s_eq _ _ _
  · exact mz_s_ne h
theorem mz_s_s (M : mz_Mem) (k : Nat) (f g : Nat → Int32) : mz_s (mz_s M k f) k g = mz_s M k g := by
  funext a
  by_cases h : a = k
  · subst h; rw [mz_s_eq, mz_s_eq]
  · rw [mz_s_ne h, mz_s_ne h, mz_s_ne h]
theorem mz_s_c (M : mz_Mem) {k j : Nat} (f g : Nat → Int32) (h : k ≠ j) : mz_s (mz_s M k f) j g = mz_s (mz_s M j g) k f := by
  funext a
  by_cases h1 : a = k
  · subst h1; rw [mz_s_ne h, mz_s_eq, mz_s_eq]
  · by_cases h2 : a = j
    · subst h2; rw [mz_s_eq, mz_s_ne h1, mz_s_eq]
    · rw [mz_s_ne h2, mz_s_ne h1, mz_s_ne h1, mz_s_ne h2]
/-- where a body stands -/
abbrev mz_G : Type := Program × Launch × Env × Room × State × MethodId × Array Value × List Frame × Method × Code × Heap × (Nat → Prop) × (State → Prop)
/-- what holds all along a body: the launch, the method's class, its code, its locals' number, what it answers, its room, the tables -/
def mz_C (Γ : mz_G) (l : Launch) (own : String) (cc : ByteArray) (nL : Nat) (ret : Option FieldType) (D : va_G) (cl : List vw_C) (tys : List (ClassId × FieldType)) (rm : Room) : Prop :=
  match Γ with
  | (p, l', _, R, s, m, args, _, meth, c, _, _, _) => l' = l ∧ p.tables.exec = Jvm.exec ∧ c.code = cc ∧ c.maxLocals = nL ∧ s.vm.findClass own = some m.cls ∧ (∀ w ∈ mz_ws, w.before args s = true) ∧ mz_K D cl tys s ∧ meth.locks = false ∧ meth.sig.returnType = ret ∧ R = rm
/-- from here the machine comes to what is wanted -/
def mz_W (Γ : mz_G) (ρ : Nat → Nat) (nL k n : Nat) (P : Heap → Prop) (pc : Nat) (L : List (Nat × Value)) (st : List Value) : Prop :=
  match Γ with
  | (p, l, e, R, s, m, args, below, meth, c, H0, A, Q) => ∀ (H : Heap) (ls : Array Slot) (locs : List Loc), P H → va_S A H0 H locs → lv_has ls nL (mz_L ρ L) → W p l e R s m args below meth c H locs k n Q (F0 m pc ls (st.map (mz_e ρ)))
/-- what is wanted of a method's body: its end, and what may have changed -/
def mz_E (Γ : mz_G) (Qc : Array Value → State → Outcome → State → Prop) (mc ms : Nat) (A0 : Nat → Prop) : Prop :=
  match Γ with
  | (_, _, _, _, s, _, args, below, _, _, H0, A, Q) => Q = MQ below Qc args s mc ms A ∧ H0 = s.heap ∧ A = A0
/-- the end of a method over numbered cells: the answer, the cells as they are then, nothing else changed -/
def mz_Q (D : va_G) (cl : List vw_C) (cA : ClassId) (ρ : Nat → Nat) (lay : List (Option mz_Sh)) (r : Option Value) (M' : mz_Mem) : Array Value → State → Outcome → State → Prop :=
  fun _ st o t => o = .returned r ∧ mz_H D cl cA ρ lay M' t.heap ∧ va_F (mz_A ρ lay) st t
/-- A METHOD'S CONTRACT: with these arguments over these cells it answers r, and the cells hold M' -/
def mz_M (l : Launch) (D : va_G) (cl : List vw_C) (cA : ClassId) (ρ : Nat → Nat) (lay : List (Option mz_Sh)) (y : MethodName) (cc : ByteArray) (nL : Nat) (ret : Option FieldType) (fr lo : Nat) (As : List Value) (M : mz_Mem) (r : Option Value) (M' : mz_Mem) : Prop :=
  Met l y (Cond.code y cc nL ret :: mz_ws) { frames := fr, cells := 0, slots := 0, locals := lo } (va_Pc (As.map (mz_e ρ)) (fun U => mz_H D cl cA ρ lay M U.heap ∧ mz_K D cl [(cA, .int)] U)) (mz_Q D cl cA ρ lay (r.map (mz_e ρ)) M') 0 0 (mz_A ρ lay)
theorem mz_sl_len (ρ : Nat → Nat) : ∀ As : List Value, (lg_sl (As.map (mz_e ρ))).length = (lg_sl As).length
  | [] => rfl
  | v :: t => by
    have h := mz_sl_len ρ t
    unfold lg_sl at h ⊢
    simp only [List.map_cons, List.flatMap_cons, List.length_append, mz_e_cat, h]
    by_cases c : v.category = 2 <;> simp [c]
theorem mz_args_map (ρ : Nat → Nat) : ∀ (As : List Value) (i : Nat), lv_args i (As.map (mz_e ρ)) = mz_L ρ (lv_args i As)
  | [], _ => rfl
  | v :: t, i => by
    show (i, mz_e ρ v) :: lv_args (if (mz_e ρ v).category = 2 then i + 2 else i + 1) (t.map (mz_e ρ)) = (i, mz_e ρ v) :: mz_L ρ (lv_args (if v.category = 2 then i + 2 else i + 1) t)
    rw [mz_e_cat, mz_args_map ρ t]
/-- into a body -/
theorem mz_intro {l : Launch} {D : va_G} {cl : List vw_C} {tys : List (ClassId × FieldType)} {ρ : Nat → Nat} {y : MethodName} {cc : ByteArray} {nL fr lo mc ms : Nat} {ret : Option FieldType} {As : List Value} {P : Heap → Prop} {Qc : Array Value → State → Outcome → State → Prop} {A : Nat → Prop}
    (hy : plainName y.cls = true) (hlen : (lg_sl As).length ≤ nL)
    (body : ∀ Γ : mz_G, mz_C Γ l y.cls cc nL ret D cl tys { frames := fr, cells := mc, slots := ms, locals := lo } → mz_E Γ Qc mc ms A → mz_W Γ ρ nL 0 0 P 0 (lv_args 0 As) []) :
    Met l y (Cond.code y cc nL ret :: mz_ws) { frames := fr, cells := mc, slots := ms, locals := lo } (va_Pc (As.map (mz_e ρ)) (fun U => P U.heap ∧ mz_K D cl tys U)) Qc mc ms A := by
  refine Met.ofW (cc := cc) (maxL := nL) (ret := ret) hy rfl ?_
  intro p e s m args below meth c s₁ B hml hv
  obtain ⟨rfl, hP, hK⟩ := hv
  have hts := atoms_spec (ws := Cond.code y cc nL ret :: mz_ws) B.pre
  rw [lg_entry_eq]
  have hl := lv_entry (As.map (mz_e ρ)) (n := nL) (by rw [mz_sl_len]; exact hlen)
  rw [mz_args_map] at hl
  exact body (p, l, e, { frames := fr, cells := mc, slots := ms, locals := lo }, s, m, (As.map (mz_e ρ)).toArray, below, meth, c, s.heap, A, MQ below Qc (As.map (mz_e ρ)).toArray s mc ms A)
    ⟨rfl, B.exec, B.bytes, hml, findClass_of_methodNamed B.named, fun w hw => hts w (List.mem_cons_of_mem _ hw), hK, B.notSynchronized, B.returns, rfl⟩ ⟨rfl, rfl, rfl⟩
    s.heap _ [] hP va_S.rf hl
/-! a stretch without branches or calls, run by a program -/
abbrev mz_O : Type := Option (Nat × List (Nat × Value) × List Value)
def mz_set1 (L : List (Nat × Value)) (i : Nat) (v : Value) : List (Nat × Value) := (i, v) :: L.filter (fun q => !(q.1 == i) && !(q.1 + 1 == i && q.2.category == 2))
def mz_set2 (L : List (Nat × Value)) (i : Nat) (v : Value) : List (Nat × Value) := (i, v) :: L.filter (fun q => !(q.1 == i) && (!(q.1 == i + 1) && !(q.1 + 1 == i && q.2.category == 2)))
theorem mz_set1_map (ρ : Nat → Nat) (L : List (Nat × Value)) (i : Nat) (v : Value) : (i, mz_e ρ v) :: (mz_L ρ L).filter (fun q => !(q.1 == i) && !(q.1 + 1 == i && q.2.category == 2)) = mz_L ρ (mz_set1 L i v) := by
  simp [mz_L, mz_set1, List.filter_map, Function.comp_def, mz_e_cat]
theorem mz_set2_map (ρ : Nat → Nat) (L : List (Nat × Value)) (i : Nat) (v : Value) : (i, mz_e ρ v) :: (mz_L ρ L).filter (fun q => !(q.1 == i) && (!(q.1 == i + 1) && !(q.1 + 1 == i && q.2.category == 2))) = mz_L ρ (mz_set2 L i v) := by
  simp [mz_L, mz_set2, List.filter_map, Function.comp_def, mz_e_cat]
def mz_get (L : List (Nat × Value)) (i : Nat) : Option Value := match L with
  | [] => none
  | q :: t => if q.1 = i then some q.2 else mz_get t i
theorem mz_get_mem {i : Nat} {v : Value} : ∀ {L : List (Nat × Value)}, mz_get L i = some v → (i, v) ∈ L
  | [], h => by cases h
  | q :: t, h => by
    unfold mz_get at h
    by_cases c : q.1 = i
    · rw [if_pos c] at h
      cases h
      rw [← c]
      exact List.mem_cons_self
    · rw [if_neg c] at h
      exact List.mem_cons_of_mem _ (mz_get_mem h)
def mz_ldI (pc : Nat) (L : List (Nat × Value)) (i : Nat) (st : List Value) : mz_O := match mz_get L i with
  | some (.int x) => some (pc, L, .int x :: st)
  | _ => none
def mz_ldA (pc : Nat) (L : List (Nat × Value)) (i : Nat) (st : List Value) : mz_O := match mz_get L i with
  | some (.ref x) => some (pc, L, .ref x :: st)
  | _ => none
def mz_ldL (pc : Nat) (L : List (Nat × Value)) (i : Nat) (st : List Value) : mz_O := match mz_get L i with
  | some (.long x) => some (pc, L, .long x :: st)
  | _ => none
def mz_stI (nL pc : Nat) (L : List (Nat × Value)) (i : Nat) (st : List Value) : mz_O := match st with
  | .int x :: r => if i < nL then some (pc, mz_set1 L i (.int x), r) else none
  | _ => none
def mz_stA (nL pc : Nat) (L : List (Nat × Value)) (i : Nat) (st : List Value) : mz_O := match st with
  | .ref x :: r => if i < nL then some (pc, mz_set1 L i (.ref x), r) else none
  | _ => none
def mz_stL (nL pc : Nat) (L : List (Nat × Value)) (i : Nat) (st : List Value) : mz_O := match st with
  | .long x :: r => if i + 1 < nL then some (pc, mz_set2 L i (.long x), r) else none
  | _ => none
def mz_inc (nL pc : Nat) (L : List (Nat × Value)) (i : Nat) (n : Int) (st : List Value) : mz_O := match mz_get L i with
  | some (.int x) => if i < nL then some (pc, mz_set1 L i (.int (x + Int32.ofInt n)), st) else none
  | _ => none
def mz_bi (f : Int32 → Int32 → Int32) (pc : Nat) (L : List (Nat × Value)) (st : List Value) : mz_O := match st with
  | .int y :: .int x :: r => some (pc + 1, L, .int (f x y) :: r)
  | _ => none
def mz_bl (f : Int64 → Int64 → Int64) (pc : Nat) (L : List (Nat × Value)) (st : List Value) : mz_O := match st with
  | .long y :: .long x :: r => some (pc + 1, L, .long (f x y) :: r)
  | _ => none
def mz_il (pc : Nat) (L : List (Nat × Value)) (st : List Value) : mz_O := match st with
  | .int x :: r => some (pc + 1, L, .long x.toInt64 :: r)
  | _ => none
def mz_du (pc : Nat) (L : List (Nat × Value)) (st : List Value) : mz_O := match st with
  | .int x :: r => some (pc + 1, L, .int x :: .int x :: r)
  | .ref x :: r => some (pc + 1, L, .ref x :: .ref x :: r)
  | _ => none
def mz_pp (pc : Nat) (L : List (Nat × Value)) (st : List Value) : mz_O := match st with
  | .int _ :: r => some (pc + 1, L, r)
  | .ref _ :: r => some (pc + 1, L, r)
  | _ => none
/-- what a program says of fields, lengths, long constants -/
def mz_gf (fl : List (Nat × Nat × Nat)) (lay : List (Option mz_Sh)) (M : mz_Mem) (idx : Nat) (id : Nat) : Option Value := match fl.lookup idx with
  | some (ci, j) => match lay[id]? with
    | some (some (.inr (cj, fs))) => if ci = cj then (fs[j]?).map (mz_fv (M id) j) else none
    | _ => none
  | none => none
def mz_fg (fl : List (Nat × Nat × Nat)) (lay : List (Option mz_Sh)) (M : mz_Mem) (pc idx : Nat) (L : List (Nat × Value)) (st : List Value) : mz_O := match st with
  | .ref id :: r => match mz_gf fl lay M idx id with
    | some v => some (pc + 3, L, v :: r)
    | none => none
  | _ => none
def mz_al (lay : List (Option mz_Sh)) (pc : Nat) (L : List (Nat × Value)) (st : List Value) : mz_O := match st with
  | .ref id :: r => match lay[id]? with
    | some (some (.inl n)) => some (pc + 1, L, .int (Int32.ofNat n) :: r)
    | _ => none
  | _ => none
def mz_kl (kl : List (Nat × Int64)) (pc idx : Nat) (L : List (Nat × Value)) (st : List Value) : mz_O := match kl.lookup idx with
  | some v => some (pc + 3, L, .long v :: st)
  | none => none
def mz_gt (pc : Nat) (off : Int) (L : List (Nat × Value)) (st : List Value) : mz_O := match (pc : Int) + off with
  | .ofNat t => some (t, L, st)
  | _ => none
def mz_len : Instr → Nat
  | .bipush _ => 2 | .sipush _ => 3 | .iload _ => 2 | .aload _ => 2 | .lload _ => 2 | .istore _ => 2 | .astore _ => 2 | .lstore _ => 2
  | .iinc _ _ => 3 | .goto _ => 3 | .getfield _ => 3 | .ldc2_w _ => 3
  | _ => 1
def mz_st (nL : Nat) (fl : List (Nat × Nat × Nat)) (kl : List (Nat × Int64)) (lay : List (Option mz_Sh)) (M : mz_Mem) (pc : Nat) (ins : Instr) (L : List (Nat × Value)) (st : List Value) : mz_O := match ins with
  | .iconst n => some (pc + 1, L, .int (Int32.ofInt n) :: st)
  | .bipush n => some (pc + 2, L, .int (Int8.ofInt n).toInt32 :: st)
  | .sipush n => some (pc + 3, L, .int (Int16.ofInt n).toInt32 :: st)
  | .iload i => mz_ldI (pc + 2) L i st
  | .iload_n i => mz_ldI (pc + 1) L i st
  | .aload i => mz_ldA (pc + 2) L i st
  | .aload_n i => mz_ldA (pc + 1) L i st
  | .lload i => mz_ldL (pc + 2) L i st
  | .lload_n i => mz_ldL (pc + 1) L i st
  | .istore i => mz_stI nL (pc + 2) L i st
  | .istore_n i => mz_stI nL (pc + 1) L i st
  | .astore i => mz_stA nL (pc + 2) L i st
  | .astore_n i => mz_stA nL (pc + 1) L i st
  | .lstore i => mz_stL nL (pc + 2) L i st
  | .lstore_n i => mz_stL nL (pc + 1) L i st
  | .iinc i n => mz_inc nL (pc + 3) L i n st
  | .iadd => mz_bi (fun x y => x + y) pc L st
  | .isub => mz_bi (fun x y => x - y) pc L st
  | .imul => mz_bi (fun x y => x * y) pc L st
  | .iand => mz_bi (fun x y => x &&& y) pc L st
  | .ior => mz_bi (fun x y => x ||| y) pc L st
  | .ixor => mz_bi (fun x y => x ^^^ y) pc L st
  | .ishl => mz_bi (fun x y => x <<< (y &&& 31)) pc L st
  | .ishr => mz_bi (fun x y => x >>> (y &&& 31)) pc L st
  | .ladd => mz_bl (fun x y => x + y) pc L st
  | .lmul => mz_bl (fun x y => x * y) pc L st
  | .i2l => mz_il pc L st
  | .dup => mz_du pc L st
  | .pop => mz_pp pc L st
  | .goto off => mz_gt pc off L st
  | .getfield idx => mz_fg fl lay M pc idx L st
  | .arraylength => mz_al lay pc L st
  | .ldc2_w idx => mz_kl kl pc idx L st
  | _ => none
def mz_run (nL : Nat) (fl : List (Nat × Nat × Nat)) (kl : List (Nat × Int64)) (lay : List (Option mz_Sh)) (M : mz_Mem) : List (Nat × Instr) → Nat → List (Nat × Value) → List Value → mz_O
  | [], pc, L, st => some (pc, L, st)
  | q :: t, pc, L, st => if q.1 = pc then (match mz_st nL fl kl lay M pc q.2 L st with
    | some (pc', L', st') => mz_run nL fl kl lay M t pc' L' st'
    | none => none) else none
/-- the fields that a class's instructions name -/
def mz_FL (own : String) (cl : List vw_C) (fl : List (Nat × Nat × Nat)) : Prop := ∀ idx ci j : Nat, fl.lookup idx = some (ci, j) → ∃ (C : String) (T : u_T) (N : Nat), cl[ci]? = some (C, T, N) ∧ j < N ∧ (∀ w ∈ u_ws C T N, w ∈ mz_ws) ∧
  (Cond.fieldLink own idx (T j).1 (T j).2.1 (T j).2.2.1 ∈ mz_ws ∨ ∃ host : String, Cond.fieldLinkNest own idx (T j).1 (T j).2.1 (T j).2.2.1 host ∈ mz_wn)
def mz_KL (own : String) (kl : List (Nat × Int64)) : Prop := ∀ (idx : Nat) (v : Int64), kl.lookup idx = some v → Cond.constantLong own idx v ∈ mz_ws
end
section
section MZS
variable {Γ : mz_G} {l : Launch} {own : String} {cc : ByteArray} {nL k n fr lo : Nat} {ret : Option FieldType} {D : va_G} {cl : List vw_C} {tys : List (ClassId × FieldType)} {rm : Room} {ρ : Nat → Nat} {P : Heap → Prop}
variable {pc : Nat} {L : List (Nat × Value)} {st : List Value} {pc' : Nat} {L' : List (Nat × Value)} {st' : List Value}
theorem mz_s_ldI {ins : Instr} {i len : Nat} (hr : mz_ldI (pc + len) L i st = some (pc', L', st')) (C : mz_C Γ l own cc nL ret D cl tys rm) (hd : decode cc pc = .ok (ins, len)) (hi : (ins = .iload i ∧ len = 2) ∨ (∃ k : Fin 4, ins = .iload_n k ∧ (k : Nat) = i ∧ len = 1)) (kk : mz_W Γ ρ nL k n P pc' L' st') : mz_W Γ ρ nL k n P pc L st := by
  obtain ⟨p, l', e, R, s, m, args, below, meth, c, H0, A, Q⟩ := Γ
  obtain ⟨-, hx, hb, -⟩ := C
  intro H ls locs hP hS hl
  unfold mz_ldI at hr
  split at hr
  · rename_i x hg
    cases hr
    have h1 := hl.2.2 _ (mz_L_mem (ρ := ρ) (mz_get_mem hg))
    rcases hi with ⟨rfl, rfl⟩ | ⟨k, rfl, hk, rfl⟩
    · exact lv_iload hx hb hd h1 (kk H ls locs hP hS hl)
    · exact lv_iload_n hx hb hd hk h1 (kk H ls locs hP hS hl)
  · cases hr
theorem mz_s_ldA {ins : Instr} {i len : Nat} (hr : mz_ldA (pc + len) L i st = some (pc', L', st')) (C : mz_C Γ l own cc nL ret D cl tys rm) (hd : decode cc pc = .ok (ins, len)) (hi : (ins = .aload i ∧ len = 2) ∨ (∃ k : Fin 4, ins = .aload_n k ∧ (k : Nat) = i ∧ len = 1)) (kk : mz_W Γ ρ nL k n P pc' L' st') : mz_W Γ ρ nL k n P pc L st := by
  obtain ⟨p, l', e, R, s, m, args, below, meth, c, H0, A, Q⟩ := Γ
  obtain ⟨-, hx, hb, -⟩ := C
  intro H ls locs hP hS hl
  unfold mz_ldA at hr
  split at hr
  · rename_i x hg
    cases hr
    have h1 := hl.2.2 _ (mz_L_mem (ρ := ρ) (mz_get_mem hg))
    rcases hi with ⟨rfl, rfl⟩ | ⟨k, rfl, hk, rfl⟩
    · exact lv_aload hx hb hd h1 (kk H ls locs hP hS hl)
    · exact lv_aload_n hx hb hd hk h1 (kk H ls locs hP hS hl)
  · cases hr
theorem mz_s_ldL {ins : Instr} {i len : Nat} (hr : mz_ldL (pc + len) L i st = some (pc', L', st')) (C : mz_C Γ l own cc nL ret D cl tys rm) (hd : decode cc pc = .ok (ins, len)) (hi : (ins = .lload i ∧ len = 2) ∨ (∃ k : Fin 4, ins = .lload_n k ∧ (k : Nat) = i ∧ len = 1)) (kk : mz_W Γ ρ nL k n P pc' L' st') : mz_W Γ ρ nL k n P pc L st := by
  obtain ⟨p, l', e, R, s, m, args, below, meth, c, H0, A, Q⟩ := Γ
  obtain ⟨-, hx, hb, -⟩ := C
  intro H ls locs hP hS hl
  unfold mz_ldL at hr
  split at hr
  · rename_i x hg
    cases hr
    have h1 := hl.2.2 _ (mz_L_mem (ρ := ρ) (mz_get_mem hg))
    rcases hi with ⟨rfl, rfl⟩ | ⟨k, rfl, hk, rfl⟩
    · exact lv_lload hx hb hd h1 (kk H ls locs hP hS hl)
    · exact lv_lload_n hx hb hd hk h1 (kk H ls locs hP hS hl)
  · cases hr
theorem mz_s_stI {ins : Instr} {i len : Nat} (hr : mz_stI nL (pc + len) L i st = some (pc', L', st')) (C : mz_C Γ l own cc nL ret D cl tys rm) (hd : decode cc pc = .ok (ins, len)) (hi : (ins = .istore i ∧ len = 2) ∨ (∃ k : Fin 4, ins = .istore_n k ∧ (k : Nat) = i ∧ len = 1)) (kk : mz_W Γ ρ nL k n P pc' L' st') : mz_W Γ ρ nL k n P pc L st := by
  obtain ⟨p, l', e, R, s, m, args, below, meth, c, H0, A, Q⟩ := Γ
  obtain ⟨-, hx, hb, -⟩ := C
  intro H ls locs hP hS hl
  unfold mz_stI at hr
  split at hr
  · rename_i x r
    by_cases hn : i < nL
    · rw [if_pos hn] at hr
      cases hr
      rcases hi with ⟨rfl, rfl⟩ | ⟨k, rfl, hk, rfl⟩
      · exact lv_istore hx hb hd hl hn (mz_set1_map ρ L i (.int x)) (fun ls' hl' => kk H ls' locs hP hS hl')
      · exact lv_istore_n hx hb hd hk hl hn (mz_set1_map ρ L i (.int x)) (fun ls' hl' => kk H ls' locs hP hS hl')
    · rw [if_neg hn] at hr; cases hr
  · cases hr
theorem mz_s_stA {ins : Instr} {i len : Nat} (hr : mz_stA nL (pc + len) L i st = some (pc', L', st')) (C : mz_C Γ l own cc nL ret D cl tys rm) (hd : decode cc pc = .ok (ins, len)) (hi : (ins = .astore i ∧ len = 2) ∨ (∃ k : Fin 4, ins = .astore_n k ∧ (k : Nat) = i ∧ len = 1)) (kk : mz_W Γ ρ nL k n P pc' L' st') : mz_W Γ ρ nL k n P pc L st := by
  obtain ⟨p, l', e, R, s, m, args, below, meth, c, H0, A, Q⟩ := Γ
  obtain ⟨-, hx, hb, -⟩ := C
  intro H ls locs hP hS hl
  unfold mz_stA at hr
  split at hr
  · rename_i x r
    by_cases hn : i < nL
    · rw [if_pos hn] at hr
      cases hr
      rcases hi with ⟨rfl, rfl⟩ | ⟨k, rfl, hk, rfl⟩
      · exact lv_astore hx hb hd hl hn (mz_set1_map ρ L i (.ref x)) (fun ls' hl' => kk H ls' locs hP hS hl')
      · exact lv_astore_n hx hb hd hk hl hn (mz_set1_map ρ L i (.ref x)) (fun ls' hl' => kk H ls' locs hP hS hl')
    · rw [if_neg hn] at hr; cases hr
  · cases hr
theorem mz_s_stL {ins : Instr} {i len : Nat} (hr : mz_stL nL (pc + len) L i st = some (pc', L', st')) (C : mz_C Γ l own cc nL ret D cl tys rm) (hd : decode cc pc = .ok (ins, len)) (hi : (ins = .lstore i ∧ len = 2) ∨ (∃ k : Fin 4, ins = .lstore_n k ∧ (k : Nat) = i ∧ len = 1)) (kk : mz_W Γ ρ nL k n P pc' L' st') : mz_W Γ ρ nL k n P pc L st := by
  obtain ⟨p, l', e, R, s, m, args, below, meth, c, H0, A, Q⟩ := Γ
  obtain ⟨-, hx, hb, -⟩ := C
  intro H ls locs hP hS hl
  unfold mz_stL at hr
  split at hr
  · rename_i x r
    by_cases hn : i + 1 < nL
    · rw [if_pos hn] at hr
      cases hr
      rcases hi with ⟨rfl, rfl⟩ | ⟨k, rfl, hk, rfl⟩
      · exact lv_lstore hx hb hd hl hn (mz_set2_map ρ L i (.long x)) (fun ls' hl' => kk H ls' locs hP hS hl')
      · exact lv_lstore_n hx hb hd hk hl hn (mz_set2_map ρ L i (.long x)) (fun ls' hl' => kk H ls' locs hP hS hl')
    · rw [if_neg hn] at hr; cases hr
  · cases hr
theorem mz_s_inc {i : Nat} {v : Int} (hr : mz_inc nL (pc + 3) L i v st = some (pc', L', st')) (C : mz_C Γ l own cc nL ret D cl tys rm) (hd : decode cc pc = .ok (.iinc i v, 3)) (kk : mz_W Γ ρ nL k n P pc' L' st') : mz_W Γ ρ nL k n P pc L st := by
  obtain ⟨p, l', e, R, s, m, args, below, meth, c, H0, A, Q⟩ := Γ
  obtain ⟨-, hx, hb, -⟩ := C
  intro H ls locs hP hS hl
  unfold mz_inc at hr
  split at hr
  · rename_i x hg
    by_cases hn : i < nL
    · rw [if_pos hn] at hr
      cases hr
      obtain ⟨j, hj⟩ := List.getElem?_of_mem (mz_L_mem (ρ := ρ) (mz_get_mem hg))
      exact lv_iinc hx hb hd hl hj rfl hn (mz_set1_map ρ L i (.int (x + Int32.ofInt v))) (fun ls' hl' => kk H ls' locs hP hS hl')
    · rw [if_neg hn] at hr; cases hr
  · cases hr
theorem mz_s_goto {off : Int} (hr : mz_gt pc off L st = some (pc', L', st')) (C : mz_C Γ l own cc nL ret D cl tys rm) (hd : decode cc pc = .ok (.goto off, 3)) (kk : mz_W Γ ρ nL k n P pc' L' st') : mz_W Γ ρ nL k n P pc L st := by
  obtain ⟨p, l', e, R, s, m, args, below, meth, c, H0, A, Q⟩ := Γ
  obtain ⟨-, hx, hb, -⟩ := C
  intro H ls locs hP hS hl
  unfold mz_gt at hr
  split at hr
  · rename_i t ht
    cases hr
    exact lv_goto hx hb hd ht (kk H ls locs hP hS hl)
  · cases hr
theorem mz_s_bi {f : Int32 → Int32 → Int32} (hr : mz_bi f pc L st = some (pc', L', st'))
    (row : ∀ (x y : Int32) (r : List Value), mz_W Γ ρ nL k n P (pc + 1) L (.int (f x y) :: r) → mz_W Γ ρ nL k n P pc L (.int y :: .int x :: r)) (kk : mz_W Γ ρ nL k n P pc' L' st') : mz_W Γ ρ nL k n P pc L st := by
  unfold mz_bi at hr
  split at hr
  · cases hr; exact row _ _ _ kk
  · cases hr
theorem mz_s_bl {f : Int64 → Int64 → Int64} (hr : mz_bl f pc L st = some (pc', L', st'))
    (row : ∀ (x y : Int64) (r : List Value), mz_W Γ ρ nL k n P (pc + 1) L (.long (f x y) :: r) → mz_W Γ ρ nL k n P pc L (.long y :: .long x :: r)) (kk : mz_W Γ ρ nL k n P pc' L' st') : mz_W Γ ρ nL k n P pc L st := by
  unfold mz_bl at hr
  split at hr
  · cases hr; exact row _ _ _ kk
  · cases hr
end MZS
section MZT
variable {Γ : mz_G} {l : Launch} {own : String} {cc : ByteArray} {nL k n : Nat} {ret : Option FieldType} {D : va_G} {cl : List vw_C} {cA : ClassId} {rm : Room} {ρ : Nat → Nat} {lay : List (Option mz_Sh)} {M : mz_Mem}
variable {pc : Nat} {L : List (Nat × Value)} {st : List Value} {pc' : Nat} {L' : List (Nat × Value)} {st' : List Value} {fl : List (Nat × Nat × Nat)} {kl : List (Nat × Int64)}
theorem mz_one {q : Nat × va_E} {H : Heap} (h : va_at D cl q H) : va_P D cl [q] H := by
  intro j x hx
  have hz : j < 1 := (List.getElem?_eq_some_iff.mp hx).1
  rw [show j = 0 by omega] at hx
  cases hx
  exact h
theorem mz_s_getf {idx : Nat} (hF : mz_FL own cl fl) (hr : mz_fg fl lay M pc idx L st = some (pc', L', st')) (C : mz_C Γ l own cc nL ret D cl [(cA, .int)] rm) (hd : decode cc pc = .ok (.getfield idx, 3)) (kk : mz_W Γ ρ nL k n (mz_H D cl cA ρ lay M) pc' L' st') : mz_W Γ ρ nL k n (mz_H D cl cA ρ lay M) pc L st := by
  obtain ⟨p, l', e, R, s, m, args, below, meth, c, H0, A, Q⟩ := Γ
  obtain ⟨-, hx, hb, -, hown, hts, hK, -⟩ := C
  intro H ls locs hP hS hl
  unfold mz_fg at hr
  split at hr
  · rename_i id r
    split at hr
    · rename_i v hv
      cases hr
      unfold mz_gf at hv
      split at hv
      · rename_i ci j hlk
        split at hv
        · rename_i cj fs hsh
          by_cases hc : ci = cj
          · rw [if_pos hc] at hv
            subst hc
            obtain ⟨o, ho, rfl⟩ := Option.map_eq_some_iff.mp hv
            obtain ⟨C, T, N, hcl, hj, hin, hlink⟩ := hF idx ci j hlk
            have hat := mz_one (hP id _ hsh)
            have hfs : ((mz_fs (M id) fs).map (mz_e ρ))[j]? = some (mz_e ρ (mz_fv (M id) j o)) := by
              rw [List.getElem?_map, mz_fs_at, ho]; rfl
            have hsame : ∀ x, s.fieldFound? (T j).1 (T j).2.1 (T j).2.2.1 = some x → s.fieldFound? (T j).1 (T j).2.1 (T j).2.2.1 = some x := fun x h => h
            rcases hlink with hlink | ⟨host, hlink⟩
            · exact va_get hx hb hts hin hown hK.1 hat 0 rfl hcl j hj (hts _ hlink) hsame hfs hd (kk H ls locs hP hS hl)
            · exact va_getN hx hb hts hin hown hK.1 hat 0 rfl hcl j hj (va_Nw.use rfl (hK.2 _ hlink)) hsame hfs hd (kk H ls locs hP hS hl)
          · rw [if_neg hc] at hv; cases hv
        · cases hv
      · cases hv
    · cases hr
  · cases hr
theorem mz_s_al (hr : mz_al lay pc L st = some (pc', L', st')) (C : mz_C Γ l own cc nL ret D cl [(cA, .int)] rm) (hd : decode cc pc = .ok (.arraylength, 1)) (kk : mz_W Γ ρ nL k n (mz_H D cl cA ρ lay M) pc' L' st') : mz_W Γ ρ nL k n (mz_H D cl cA ρ lay M) pc L st := by
  obtain ⟨p, l', e, R, s, m, args, below, meth, c, H0, A, Q⟩ := Γ
  obtain ⟨-, hx, hb, -, hown, hts, hK, -⟩ := C
  intro H ls locs hP hS hl
  unfold mz_al at hr
  split at hr
  · rename_i id r
    split at hr
    · rename_i n hsh
      cases hr
      exact va_alen hx hb hK.1 (mz_one (hP id _ hsh)) 0 0 rfl rfl rfl hd (kk H ls locs hP hS hl)
    · cases hr
  · cases hr
theorem mz_s_kl {P : Heap → Prop} {tys : List (ClassId × FieldType)} {idx : Nat} (hk : mz_KL own kl) (hr : mz_kl kl pc idx L st = some (pc', L', st')) (C : mz_C Γ l own cc nL ret D cl tys rm) (hd : decode cc pc = .ok (.ldc2_w idx, 3)) (kk : mz_W Γ ρ nL k n P pc' L' st') : mz_W Γ ρ nL k n P pc L st := by
  obtain ⟨p, l', e, R, s, m, args, below, meth, c, H0, A, Q⟩ := Γ
  obtain ⟨-, hx, hb, -, hown, hts, hK, -⟩ := C
  intro H ls locs hP hS hl
  unfold mz_kl at hr
  split at hr
  · rename_i v hv
    cases hr
    exact lv_ldc2 hx hb hown (hts _ (hk idx v hv)) hd (kk H ls locs hP hS hl)
  · cases hr
theorem mz_step (hF : mz_FL own cl fl) (hk : mz_KL own kl) (C : mz_C Γ l own cc nL ret D cl [(cA, .int)] rm) {ins : Instr} (hd : decode cc pc = .ok (ins, mz_len ins)) (hr : mz_st nL fl kl lay M pc ins L st = some (pc', L', st')) (kk : mz_W Γ ρ nL k n (mz_H D cl cA ρ lay M) pc' L' st') : mz_W Γ ρ nL k n (mz_H D cl cA ρ lay M) pc L st := by
  have row : ∀ (ins2 : Instr) (f : Int32 → Int32 → Int32), decode cc pc = .ok (ins2, 1) → (∀ (p : Program) (l : Launch) (e : Env) (R : Room) (s : State) (m : MethodId) (args : Array Value) (below : List Frame) (meth : Method) (c : Code) (H : Heap) (ls : Array Slot) (locs : List Loc) (Q : State → Prop) (x y : Int32) (r : List Value), p.tables.exec = Jvm.exec → c.code = cc →
      W p l e R s m args below meth c H locs k n Q (F0 m (pc + 1) ls (.int (f x y) :: r)) → W p l e R s m args below meth c H locs k n Q (F0 m pc ls (.int y :: .int x :: r))) →
      mz_bi f pc L st = some (pc', L', st') → mz_W Γ ρ nL k n (mz_H D cl cA ρ lay M) pc L st := by
    intro ins2 f _ hrow hr
    refine mz_s_bi hr (fun x y r kk => ?_) kk
    obtain ⟨p, l', e, R, s, m, args, below, meth, c, H0, A, Q⟩ := Γ
    obtain ⟨-, hx, hb, -⟩ := C
    exact fun H ls locs hP hS hl => hrow p l' e R s m args below meth c H ls locs Q x y (r.map (mz_e ρ)) hx hb (kk H ls locs hP hS hl)
  have rowL : ∀ (ins2 : Instr) (f : Int64 → Int64 → Int64), decode cc pc = .ok (ins2, 1) → (∀ (p : Program) (l : Launch) (e : Env) (R : Room) (s : State) (m : MethodId) (args : Array Value) (below : List Frame) (meth : Method) (c : Code) (H : Heap) (ls : Array Slot) (locs : List Loc) (Q : State → Prop) (x y : Int64) (r : List Value), p.tables.exec = Jvm.exec → c.code = cc →
      W p l e R s m args below meth c H locs k n Q (F0 m (pc + 1) ls (.long (f x y) :: r)) → W p l e R s m args below meth c H locs k n Q (F0 m pc ls (.long y :: .long x :: r))) →
      mz_bl f pc L st = some (pc', L', st') → mz_W Γ ρ nL k n (mz_H D cl cA ρ lay M) pc L st := by
    intro ins2 f _ hrow hr
    refine mz_s_bl hr (fun x y r kk => ?_) kk
    obtain ⟨p, l', e, R, s, m, args, below, meth, c, H0, A, Q⟩ := Γ
    obtain ⟨-, hx, hb, -⟩ := C
    exact fun H ls locs hP hS hl => hrow p l' e R s m args below meth c H ls locs Q x y (r.map (mz_e ρ)) hx hb (kk H ls locs hP hS hl)
  unfold mz_st at hr
  split at hr
  case h_1 v =>
    cases hr
    obtain ⟨p, l', e, R, s, m, args, below, meth, c, H0, A, Q⟩ := Γ
    obtain ⟨-, hx, hb, -⟩ := C
    exact fun H ls locs hP hS hl => lv_iconst hx hb hd rfl (kk H ls locs hP hS hl)
  case h_2 v =>
    cases hr
    obtain ⟨p, l', e, R, s, m, args, below, meth, c, H0, A, Q⟩ := Γ
    obtain ⟨-, hx, hb, -⟩ := C
    exact fun H ls locs hP hS hl => lv_bipush hx hb hd rfl (kk H ls locs hP hS hl)
  case h_3 v =>
    cases hr
    obtain ⟨p, l', e, R, s, m, args, below, meth, c, H0, A, Q⟩ := Γ
    obtain ⟨-, hx, hb, -⟩ := C
    exact fun H ls locs hP hS hl => lv_sipush hx hb hd rfl (kk H ls locs hP hS hl)
  case h_4 i => exact mz_s_ldI hr C hd (Or.inl ⟨rfl, rfl⟩) kk
  case h_5 i => exact mz_s_ldI hr C hd (Or.inr ⟨i, rfl, rfl, rfl⟩) kk
  case h_6 i => exact mz_s_ldA hr C hd (Or.inl ⟨rfl, rfl⟩) kk
  case h_7 i => exact mz_s_ldA hr C hd (Or.inr ⟨i, rfl, rfl, rfl⟩) kk
  case h_8 i => exact mz_s_ldL hr C hd (Or.inl ⟨rfl, rfl⟩) kk
  case h_9 i => exact mz_s_ldL hr C hd (Or.inr ⟨i, rfl, rfl, rfl⟩) kk
  case h_10 i => exact mz_s_stI hr C hd (Or.inl ⟨rfl, rfl⟩) kk
  case h_11 i => exact mz_s_stI hr C hd (Or.inr ⟨i, rfl, rfl, rfl⟩) kk
  case h_12 i => exact mz_s_stA hr C hd (Or.inl ⟨rfl, rfl⟩) kk
  case h_13 i => exact mz_s_stA hr C hd (Or.inr ⟨i, rfl, rfl, rfl⟩) kk
  case h_14 i => exact mz_s_stL hr C hd (Or.inl ⟨rfl, rfl⟩) kk
  case h_15 i => exact mz_s_stL hr C hd (Or.inr ⟨i, rfl, rfl, rfl⟩) kk
  case h_16 i v => exact mz_s_inc hr C hd kk
  case h_17 => exact row .iadd _ hd (fun p l e R s m args below meth c H ls locs Q x y r hx hb kk => lv_iadd hx hb hd kk) hr
  case h_18 => exact row .isub _ hd (fun p l e R s m args below meth c H ls locs Q x y r hx hb kk => lv_isub hx hb hd kk) hr
  case h_19 => exact row .imul _ hd (fun p l e R s m args below meth c H ls locs Q x y r hx hb kk => lv_imul hx hb hd kk) hr
  case h_20 => exact row .iand _ hd (fun p l e R s m args below meth c H ls locs Q x y r hx hb kk => lv_iand hx hb hd kk) hr
  case h_21 => exact row .ior _ hd (fun p l e R s m args below meth c H ls locs Q x y r hx hb kk => lv_ior hx hb hd kk) hr
  case h_22 => exact row .ixor _ hd (fun p l e R s m args below meth c H ls locs Q x y r hx hb kk => lv_ixor hx hb hd kk) hr
  case h_23 => exact row .ishl _ hd (fun p l e R s m args below meth c H ls locs Q x y r hx hb kk => lv_ishl hx hb hd kk) hr
  case h_24 => exact row .ishr _ hd (fun p l e R s m args below meth c H ls locs Q x y r hx hb kk => lv_ishr hx hb hd kk) hr
  case h_25 => exact rowL .ladd _ hd (fun p l e R s m args below meth c H ls locs Q x y r hx hb kk => lv_ladd hx hb hd kk) hr
  case h_26 => exact rowL .lmul _ hd (fun p l e R s m args below meth c H ls locs Q x y r hx hb kk => lv_lmul hx hb hd kk) hr
  case h_27 =>
    unfold mz_il at hr
    split at hr
    · cases hr
      obtain ⟨p, l', e, R, s, m, args, below, meth, c, H0, A, Q⟩ := Γ
      obtain ⟨-, hx, hb, -⟩ := C
      exact fun H ls locs hP hS hl => lv_i2l hx hb hd rfl (kk H ls locs hP hS hl)
    · cases hr
  case h_28 =>
    obtain ⟨p, l', e, R, s, m, args, below, meth, c, H0, A, Q⟩ := Γ
    obtain ⟨-, hx, hb, -⟩ := C
    unfold mz_du at hr
    split at hr
    · cases hr
      exact fun H ls locs hP hS hl => lv_dup hx hb hd rfl (kk H ls locs hP hS hl)
    · cases hr
      exact fun H ls locs hP hS hl => lv_dup hx hb hd rfl (kk H ls locs hP hS hl)
    · cases hr
  case h_29 =>
    obtain ⟨p, l', e, R, s, m, args, below, meth, c, H0, A, Q⟩ := Γ
    obtain ⟨-, hx, hb, -⟩ := C
    unfold mz_pp at hr
    split at hr
    · cases hr
      exact fun H ls locs hP hS hl => lv_pop hx hb hd rfl (kk H ls locs hP hS hl)
    · cases hr
      exact fun H ls locs hP hS hl => lv_pop hx hb hd rfl (kk H ls locs hP hS hl)
    · cases hr
  case h_30 off => exact mz_s_goto hr C hd kk
  case h_31 idx => exact mz_s_getf hF hr C hd kk
  case h_32 => exact mz_s_al hr C hd kk
  case h_33 idx => exact mz_s_kl hk hr C hd kk
  case h_34 => cases hr
/-- A STRETCH: the instructions as decode has them, run by the program -/
theorem mz_go (hF : mz_FL own cl fl) (hk : mz_KL own kl) (C : mz_C Γ l own cc nL ret D cl [(cA, .int)] rm) : ∀ (b : List (Nat × Instr)) {pc : Nat} {L : List (Nat × Value)} {st : List Value} {pc' : Nat} {L' : List (Nat × Value)} {st' : List Value}, b.all (fun q => decide (decode cc q.1 = .ok (q.2, mz_len q.2))) = true → mz_run nL fl kl lay M b pc L st = some (pc', L', st') →
    mz_W Γ ρ nL k n (mz_H D cl cA ρ lay M) pc' L' st' → mz_W Γ ρ nL k n (mz_H D cl cA ρ lay M) pc L st
  | [], _, _, _, _, _, _, _, hr, kk => by cases hr; exact kk
  | q :: t, pc, L, st, pc', L', st', hT, hr, kk => by
    rw [List.all_cons, Bool.and_eq_true, decide_eq_true_eq] at hT
    unfold mz_run at hr
    by_cases hq : q.1 = pc
    · rw [if_pos hq] at hr
      split at hr
      · rename_i a b2 c2 hst
        exact mz_step hF hk C (by rw [← hq]; exact hT.1) hst (mz_go hF hk C t hT.2 hr kk)
      · cases hr
    · rw [if_neg hq] at hr; cases hr
end MZT
end
section
section MZB
variable {Γ : mz_G} {l : Launch} {own : String} {cc : ByteArray} {nL k n : Nat} {ret : Option FieldType} {D : va_G} {cl : List vw_C} {tys : List (ClassId × FieldType)} {rm : Room} {ρ : Nat → Nat} {P : Heap → Prop}
variable {pc tgt : Nat} {L : List (Nat × Value)} {st : List Value} {off : Int} {x y : Int32}
/-! branches: on the left what holds where it jumps, on the right where it goes on -/
theorem mz_ieq (C : mz_C Γ l own cc nL ret D cl tys rm) (hd : decode cc pc = .ok (.if_icmp .eq off, 3)) (ht : (pc : Int) + off = (tgt : Int)) (kt : x = y → mz_W Γ ρ nL k n P tgt L st) (kf : ¬ x = y → mz_W Γ ρ nL k n P (pc + 3) L st) : mz_W Γ ρ nL k n P pc L (.int y :: .int x :: st) := by
  obtain ⟨p, l', e, R, s, m, args, below, meth, c, H0, A, Q⟩ := Γ
  obtain ⟨-, hx, hb, -⟩ := C
  exact fun H ls locs hP hS hl => lv_icmp_eq hx hb hd ht (fun h => kt h H ls locs hP hS hl) (fun h => kf h H ls locs hP hS hl)
theorem mz_ine (C : mz_C Γ l own cc nL ret D cl tys rm) (hd : decode cc pc = .ok (.if_icmp .ne off, 3)) (ht : (pc : Int) + off = (tgt : Int)) (kt : ¬ x = y → mz_W Γ ρ nL k n P tgt L st) (kf : x = y → mz_W Γ ρ nL k n P (pc + 3) L st) : mz_W Γ ρ nL k n P pc L (.int y :: .int x :: st) := by
  obtain ⟨p, l', e, R, s, m, args, below, meth, c, H0, A, Q⟩ := Γ
  obtain ⟨-, hx, hb, -⟩ := C
  exact fun H ls locs hP hS hl => lv_icmp_ne hx hb hd ht (fun h => kt h H ls locs hP hS hl) (fun h => kf h H ls locs hP hS hl)
theorem mz_ilt (C : mz_C Γ l own cc nL ret D cl tys rm) (hd : decode cc pc = .ok (.if_icmp .lt off, 3)) (ht : (pc : Int) + off = (tgt : Int)) (kt : x < y → mz_W Γ ρ nL k n P tgt L st) (kf : ¬ x < y → mz_W Γ ρ nL k n P (pc + 3) L st) : mz_W Γ ρ nL k n P pc L (.int y :: .int x :: st) := by
  obtain ⟨p, l', e, R, s, m, args, below, meth, c, H0, A, Q⟩ := Γ
  obtain ⟨-, hx, hb, -⟩ := C
  exact fun H ls locs hP hS hl => lv_icmp_lt hx hb hd ht (fun h => kt h H ls locs hP hS hl) (fun h => kf h H ls locs hP hS hl)
theorem mz_ige (C : mz_C Γ l own cc nL ret D cl tys rm) (hd : decode cc pc = .ok (.if_icmp .ge off, 3)) (ht : (pc : Int) + off = (tgt : Int)) (kt : y ≤ x → mz_W Γ ρ nL k n P tgt L st) (kf : ¬ y ≤ x → mz_W Γ ρ nL k n P (pc + 3) L st) : mz_W Γ ρ nL k n P pc L (.int y :: .int x :: st) := by
  obtain ⟨p, l', e, R, s, m, args, below, meth, c, H0, A, Q⟩ := Γ
  obtain ⟨-, hx, hb, -⟩ := C
  exact fun H ls locs hP hS hl => lv_icmp_ge hx hb hd ht (fun h => kt h H ls locs hP hS hl) (fun h => kf h H ls locs hP hS hl)
theorem mz_igt (C : mz_C Γ l own cc nL ret D cl tys rm) (hd : decode cc pc = .ok (.if_icmp .gt off, 3)) (ht : (pc : Int) + off = (tgt : Int)) (kt : y < x → mz_W Γ ρ nL k n P tgt L st) (kf : ¬ y < x → mz_W Γ ρ nL k n P (pc + 3) L st) : mz_W Γ ρ nL k n P pc L (.int y :: .int x :: st) := by
  obtain ⟨p, l', e, R, s, m, args, below, meth, c, H0, A, Q⟩ := Γ
  obtain ⟨-, hx, hb, -⟩ := C
  exact fun H ls locs hP hS hl => lv_icmp_gt hx hb hd ht (fun h => kt h H ls locs hP hS hl) (fun h => kf h H ls locs hP hS hl)
theorem mz_ile (C : mz_C Γ l own cc nL ret D cl tys rm) (hd : decode cc pc = .ok (.if_icmp .le off, 3)) (ht : (pc : Int) + off = (tgt : Int)) (kt : x ≤ y → mz_W Γ ρ nL k n P tgt L st) (kf : ¬ x ≤ y → mz_W Γ ρ nL k n P (pc + 3) L st) : mz_W Γ ρ nL k n P pc L (.int y :: .int x :: st) := by
  obtain ⟨p, l', e, R, s, m, args, below, meth, c, H0, A, Q⟩ := Γ
  obtain ⟨-, hx, hb, -⟩ := C
  exact fun H ls locs hP hS hl => lv_icmp_le hx hb hd ht (fun h => kt h H ls locs hP hS hl) (fun h => kf h H ls locs hP hS hl)
theorem mz_zeq (C : mz_C Γ l own cc nL ret D cl tys rm) (hd : decode cc pc = .ok (.ifCond .eq off, 3)) (ht : (pc : Int) + off = (tgt : Int)) (kt : x = 0 → mz_W Γ ρ nL k n P tgt L st) (kf : ¬ x = 0 → mz_W Γ ρ nL k n P (pc + 3) L st) : mz_W Γ ρ nL k n P pc L (.int x :: st) := by
  obtain ⟨p, l', e, R, s, m, args, below, meth, c, H0, A, Q⟩ := Γ
  obtain ⟨-, hx, hb, -⟩ := C
  exact fun H ls locs hP hS hl => lv_if_eq hx hb hd ht (fun h => kt h H ls locs hP hS hl) (fun h => kf h H ls locs hP hS hl)
theorem mz_zne (C : mz_C Γ l own cc nL ret D cl tys rm) (hd : decode cc pc = .ok (.ifCond .ne off, 3)) (ht : (pc : Int) + off = (tgt : Int)) (kt : ¬ x = 0 → mz_W Γ ρ nL k n P tgt L st) (kf : x = 0 → mz_W Γ ρ nL k n P (pc + 3) L st) : mz_W Γ ρ nL k n P pc L (.int x :: st) := by
  obtain ⟨p, l', e, R, s, m, args, below, meth, c, H0, A, Q⟩ := Γ
  obtain ⟨-, hx, hb, -⟩ := C
  exact fun H ls locs hP hS hl => lv_if_ne hx hb hd ht (fun h => kt h H ls locs hP hS hl) (fun h => kf h H ls locs hP hS hl)
theorem mz_zlt (C : mz_C Γ l own cc nL ret D cl tys rm) (hd : decode cc pc = .ok (.ifCond .lt off, 3)) (ht : (pc : Int) + off = (tgt : Int)) (kt : x < 0 → mz_W Γ ρ nL k n P tgt L st) (kf : ¬ x < 0 → mz_W Γ ρ nL k n P (pc + 3) L st) : mz_W Γ ρ nL k n P pc L (.int x :: st) := by
  obtain ⟨p, l', e, R, s, m, args, below, meth, c, H0, A, Q⟩ := Γ
  obtain ⟨-, hx, hb, -⟩ := C
  exact fun H ls locs hP hS hl => lv_if_lt hx hb hd ht (fun h => kt h H ls locs hP hS hl) (fun h => kf h H ls locs hP hS hl)
theorem mz_zge (C : mz_C Γ l own cc nL ret D cl tys rm) (hd : decode cc pc = .ok (.ifCond .ge off, 3)) (ht : (pc : Int) + off = (tgt : Int)) (kt : 0 ≤ x → mz_W Γ ρ nL k n P tgt L st) (kf : ¬ 0 ≤ x → mz_W Γ ρ nL k n P (pc + 3) L st) : mz_W Γ ρ nL k n P pc L (.int x :: st) := by
  obtain ⟨p, l', e, R, s, m, args, below, meth, c, H0, A, Q⟩ := Γ
  obtain ⟨-, hx, hb, -⟩ := C
  exact fun H ls locs hP hS hl => lv_if_ge hx hb hd ht (fun h => kt h H ls locs hP hS hl) (fun h => kf h H ls locs hP hS hl)
theorem mz_zgt (C : mz_C Γ l own cc nL ret D cl tys rm) (hd : decode cc pc = .ok (.ifCond .gt off, 3)) (ht : (pc : Int) + off = (tgt : Int)) (kt : 0 < x → mz_W Γ ρ nL k n P tgt L st) (kf : ¬ 0 < x → mz_W Γ ρ nL k n P (pc + 3) L st) : mz_W Γ ρ nL k n P pc L (.int x :: st) := by
  obtain ⟨p, l', e, R, s, m, args, below, meth, c, H0, A, Q⟩ := Γ
  obtain ⟨-, hx, hb, -⟩ := C
  exact fun H ls locs hP hS hl => lv_if_gt hx hb hd ht (fun h => kt h H ls locs hP hS hl) (fun h => kf h H ls locs hP hS hl)
theorem mz_zle (C : mz_C Γ l own cc nL ret D cl tys rm) (hd : decode cc pc = .ok (.ifCond .le off, 3)) (ht : (pc : Int) + off = (tgt : Int)) (kt : x ≤ 0 → mz_W Γ ρ nL k n P tgt L st) (kf : ¬ x ≤ 0 → mz_W Γ ρ nL k n P (pc + 3) L st) : mz_W Γ ρ nL k n P pc L (.int x :: st) := by
  obtain ⟨p, l', e, R, s, m, args, below, meth, c, H0, A, Q⟩ := Γ
  obtain ⟨-, hx, hb, -⟩ := C
  exact fun H ls locs hP hS hl => lv_if_le hx hb hd ht (fun h => kt h H ls locs hP hS hl) (fun h => kf h H ls locs hP hS hl)
/-- fewer locals, in any order -/
theorem mz_sub {L' : List (Nat × Value)} (h : ∀ q ∈ L', q ∈ L) (kk : mz_W Γ ρ nL k n P pc L' st) : mz_W Γ ρ nL k n P pc L st := by
  obtain ⟨p, l', e, R, s, m, args, below, meth, c, H0, A, Q⟩ := Γ
  refine fun H ls locs hP hS hl => kk H ls locs hP hS ⟨hl.1, hl.2.1, fun q hq => ?_⟩
  obtain ⟨q0, h0, rfl⟩ := List.mem_map.mp hq
  exact hl.2.2 _ (List.mem_map.mpr ⟨q0, h q0 h0, rfl⟩)
theorem mz_mono {P' : Heap → Prop} (h : ∀ H, P H → P' H) (kk : mz_W Γ ρ nL k n P' pc L st) : mz_W Γ ρ nL k n P pc L st := by
  obtain ⟨p, l', e, R, s, m, args, below, meth, c, H0, A, Q⟩ := Γ
  exact fun H ls locs hP hS hl => kk H ls locs (h H hP) hS hl
theorem mz_widen {k' n' : Nat} (h1 : k ≤ k') (h2 : n ≤ n') (kk : mz_W Γ ρ nL k' n' P pc L st) : mz_W Γ ρ nL k n P pc L st := by
  obtain ⟨p, l', e, R, s, m, args, below, meth, c, H0, A, Q⟩ := Γ
  exact fun H ls locs hP hS hl => W.widen h1 h2 (kk H ls locs hP hS hl)
end MZB
section MZR
variable {Γ : mz_G} {l : Launch} {own : String} {cc : ByteArray} {nL : Nat} {ret : Option FieldType} {D : va_G} {cl : List vw_C} {cA : ClassId} {tys : List (ClassId × FieldType)} {rm : Room} {ρ : Nat → Nat} {lay : List (Option mz_Sh)} {M M' : mz_Mem}
variable {pc : Nat} {L : List (Nat × Value)} {st : List Value} {r : Option Value} {v w : Int32}
/-! the ends -/
theorem mz_iret (C : mz_C Γ l own cc nL (some .int) D cl tys rm) (E : mz_E Γ (mz_Q D cl cA ρ lay (some (.int w)) M') 0 0 (mz_A ρ lay)) (hd : decode cc pc = .ok (.ireturn, 1)) (hv : v = w) (hM : M = M') : mz_W Γ ρ nL 0 0 (mz_H D cl cA ρ lay M) pc L [.int v] := by
  obtain ⟨p, l', e, R, s, m, args, below, meth, c, H0, A, Q⟩ := Γ
  obtain ⟨-, hx, hb, -, -, -, -, hlocks, hr, -⟩ := C
  obtain ⟨rfl, rfl, rfl⟩ := E
  subst hv; subst hM
  exact fun H ls locs hP hS hl => W.iret hx hb hr (fun t ht _ => ⟨rfl, by rw [ht]; exact hP, hS.F ht⟩) (fun q hq => hS.2.2 q hq) hd hlocks
theorem mz_zret (C : mz_C Γ l own cc nL (some .boolean) D cl tys rm) (E : mz_E Γ (mz_Q D cl cA ρ lay (some (.int w)) M') 0 0 (mz_A ρ lay)) (hd : decode cc pc = .ok (.ireturn, 1)) (hz : v = 0 ∨ v = 1) (hv : v = w) (hM : M = M') : mz_W Γ ρ nL 0 0 (mz_H D cl cA ρ lay M) pc L [.int v] := by
  obtain ⟨p, l', e, R, s, m, args, below, meth, c, H0, A, Q⟩ := Γ
  obtain ⟨-, hx, hb, -, -, -, -, hlocks, hr, -⟩ := C
  obtain ⟨rfl, rfl, rfl⟩ := E
  subst hv; subst hM
  exact fun H ls locs hP hS hl => W.zret hx hb hr (by rcases hz with rfl | rfl <;> rfl) (fun t ht _ => ⟨rfl, by rw [ht]; exact hP, hS.F ht⟩) (fun q hq => hS.2.2 q hq) hd hlocks
theorem mz_lret {v w : Int64} (C : mz_C Γ l own cc nL (some .long) D cl tys rm) (E : mz_E Γ (mz_Q D cl cA ρ lay (some (.long w)) M') 0 0 (mz_A ρ lay)) (hd : decode cc pc = .ok (.lreturn, 1)) (hv : v = w) (hM : M = M') : mz_W Γ ρ nL 0 0 (mz_H D cl cA ρ lay M) pc L [.long v] := by
  obtain ⟨p, l', e, R, s, m, args, below, meth, c, H0, A, Q⟩ := Γ
  obtain ⟨-, hx, hb, -, -, -, -, hlocks, hr, -⟩ := C
  obtain ⟨rfl, rfl, rfl⟩ := E
  subst hv; subst hM
  exact fun H ls locs hP hS hl => W.lret hx hb hr (fun t ht _ => ⟨rfl, by rw [ht]; exact hP, hS.F ht⟩) (fun q hq => hS.2.2 q hq) hd hlocks
theorem mz_vret (C : mz_C Γ l own cc nL none D cl tys rm) (E : mz_E Γ (mz_Q D cl cA ρ lay none M') 0 0 (mz_A ρ lay)) (hd : decode cc pc = .ok (.return_, 1)) (hM : M = M') : mz_W Γ ρ nL 0 0 (mz_H D cl cA ρ lay M) pc L [] := by
  obtain ⟨p, l', e, R, s, m, args, below, meth, c, H0, A, Q⟩ := Γ
  obtain ⟨-, hx, hb, -, -, -, -, hlocks, hr, -⟩ := C
  obtain ⟨rfl, rfl, rfl⟩ := E
  subst hM
  exact fun H ls locs hP hS hl => W.vret hx hb hr (fun t ht _ => ⟨rfl, by rw [ht]; exact hP, hS.F ht⟩) (fun q hq => hS.2.2 q hq) hd hlocks
/-- into a body, over numbered cells -/
theorem mz_in0 {y : MethodName} {fr lo : Nat} {As : List Value} (hy : plainName y.cls = true) (hlen : (lg_sl As).length ≤ nL)
    (body : ∀ Γ : mz_G, mz_C Γ l y.cls cc nL ret D cl [(cA, .int)] { frames := fr, cells := 0, slots := 0, locals := lo } → mz_E Γ (mz_Q D cl cA ρ lay (r.map (mz_e ρ)) M') 0 0 (mz_A ρ lay) → mz_W Γ ρ nL 0 0 (mz_H D cl cA ρ lay M) 0 (lv_args 0 As) []) :
    mz_M l D cl cA ρ lay y cc nL ret fr lo As M r M' := mz_intro (P := mz_H D cl cA ρ lay M) hy hlen body
/-- what a callee's words give: found, chosen, its class there, its code -/
def mz_Y (y : MethodName) (cc : ByteArray) (nL : Nat) (ret : Option FieldType) (n : Nat) : Prop :=
  Cond.instanceMethod y ∈ mz_ws ∧ Cond.selects y.cls y y ∈ mz_ws ∧ Cond.initialized y.cls ∈ mz_ws ∧ Cond.code y cc nL ret ∈ mz_ws ∧ (y.cls ≠ "java/lang/invoke/MethodHandle" ∧ y.cls ≠ "java/lang/invoke/VarHandle" ∧ (parseMethodDescriptor y.desc).map (fun d => d.parameters.length) = some n)
def mz_YS (y : MethodName) (cc : ByteArray) (nL : Nat) (ret : Option FieldType) (n : Nat) : Prop :=
  Cond.static y ∈ mz_ws ∧ Cond.initialized y.cls ∈ mz_ws ∧ Cond.code y cc nL ret ∈ mz_ws ∧ (y.cls ≠ "java/lang/invoke/MethodHandle" ∧ y.cls ≠ "java/lang/invoke/VarHandle" ∧ (parseMethodDescriptor y.desc).map (fun d => d.parameters.length) = some n)
theorem mz_blind {As : List Value} {B : Heap → Prop} : FrameBlind (va_Pc As (fun U => B U.heap ∧ mz_K D cl tys U)) := by
  intro a U g mk h
  exact ⟨h.1, h.2.1, mz_K.same (s := U) (U := U.calling g mk a) rfl h.2.2⟩
theorem mz_sumcat (ρ : Nat → Nat) (st : List Value) : ((st.map (mz_e ρ)).map fun v => v.category).sum = (st.map fun v => v.category).sum := by
  congr 1
  rw [List.map_map]
  exact List.map_congr_left fun v _ => mz_e_cat ρ v
/-- an instance method's call, over the same cells -/
theorem mz_callV {y : MethodName} {ccy : ByteArray} {nLy fry loy ny index id ci : Nat} {rety : Option FieldType} {As rest : List Value} {fs : List (Option (Option Nat))} {T : u_T} {N : Nat}
    (C : mz_C Γ l own cc nL ret D cl [(cA, .int)] rm) {k n : Nat} (E : ∃ Qc mc ms, mz_E Γ Qc mc ms (mz_A ρ lay)) (F : mz_M l D cl cA ρ lay y ccy nLy rety fry loy (.ref id :: As) M r M') (hY : mz_Y y ccy nLy rety ny)
    (wl : Cond.methodLink own index y ∈ mz_ws) (hid : lay[id]? = some (some (.inr (ci, fs)))) (hcl : cl[ci]? = some (y.cls, T, N)) (hn : As.length = ny)
    (hR : fry + 1 ≤ rm.frames ∧ 8 + (nLy + 11) + loy ≤ rm.locals) (hk : k ≤ rm.cells ∧ n ≤ rm.slots) (hst : (rest.map fun v => v.category).sum ≤ 8) (hd : decode cc pc = .ok (.invokevirtual index, 3))
    (kk : mz_W Γ ρ nL k n (mz_H D cl cA ρ lay M') (pc + 3) L (r.toList ++ rest)) {st : List Value} (hs : st = As.reverse ++ .ref id :: rest) : mz_W Γ ρ nL k n (mz_H D cl cA ρ lay M) pc L st := by
  obtain ⟨p, l', e, R, s, m, args, below, meth, c, H0, A, Q⟩ := Γ
  obtain ⟨rfl, hx, hb, hml, hown, hts, hK, -, -, rfl⟩ := C
  obtain ⟨Qc, mc, ms, -, -, rfl⟩ := E
  obtain ⟨y1, y2, y3, y4, y5⟩ := hY
  subst hs
  intro H ls locs hP hS hl
  have cw : CallW R s args own y.cls index y ccy nLy rety (Cond.code y ccy nLy rety :: mz_ws) { frames := fry, cells := 0, slots := 0, locals := loy } 0 0 ny :=
    ⟨callB_of ny hts (mz_good y4) rfl rfl rfl (hts _ y3) (hts _ wl) y5 hR, hts _ y1, hts _ y2⟩
  have hrun := va_runV (locs := locs) (cells := k) (slots := n) (meth := meth) (e := e) (below := below) (g := F0 m pc ls ((As.reverse ++ .ref id :: rest).map (mz_e ρ))) (rest := rest.map (mz_e ρ)) (As := As.map (mz_e ρ)) (b := ρ id) (H := H) ⟨hx, hb, hml, hown, hts⟩ F cw
    ⟨mz_blind, va_recv hK.1 (mz_one (hP id _ hid)) hcl (q0 := 0) rfl, fun U hU hW => ⟨rfl, by rw [hU]; exact hP, mz_K.warm hW hK⟩⟩ rfl (by rw [List.length_map]; exact hn) hl.1 (by simp [mz_e]) (lv_room (by rw [mz_sumcat]; exact hst)) hd ⟨by simpa using hk.1, by simpa using hk.2⟩
  intro T0 hT X
  obtain ⟨v, st₀, t, T', L1, h0, X', hL, e1, e2, ⟨hv, hM', hz, hkk⟩, stp⟩ := hrun T0 hT X
  have hv : v = r.map (mz_e ρ) := by cases hv; rfl
  subst hv
  rw [h0] at hz hkk
  have hS' : va_S (mz_A ρ lay) H0 T'.heap (locs ++ L1) := by
    refine ⟨Nat.le_trans hS.1 (by rw [e1]; exact hz), fun q h1 h2 => ?_, fun q hq => ?_⟩
    · rw [e1, hkk q (Nat.lt_of_lt_of_le h1 hS.1) h2]; exact hS.2.1 q h1 h2
    · rcases List.mem_append.mp hq with h | h
      · exact hS.2.2 q h
      · exact hL q h
  obtain ⟨t2, a1, b1⟩ := kk T'.heap ls (locs ++ L1) (by rw [e1]; exact hM') hS' hl T' rfl X'
  refine ⟨t2, stp t2 ?_, b1⟩
  have : (r.map (mz_e ρ)).toList ++ rest.map (mz_e ρ) = (r.toList ++ rest).map (mz_e ρ) := by cases r <;> simp
  rw [this]
  exact a1
/-- a static method's call -/
theorem mz_callS {y : MethodName} {ccy : ByteArray} {nLy fry loy ny index : Nat} {rety : Option FieldType} {As rest : List Value}
    (C : mz_C Γ l own cc nL ret D cl [(cA, .int)] rm) {k n : Nat} (E : ∃ Qc mc ms, mz_E Γ Qc mc ms (mz_A ρ lay)) (F : mz_M l D cl cA ρ lay y ccy nLy rety fry loy As M r M') (hY : mz_YS y ccy nLy rety ny)
    (wl : Cond.methodLink own index y ∈ mz_ws) (hn : As.length = ny)
    (hR : fry + 1 ≤ rm.frames ∧ 8 + (nLy + 11) + loy ≤ rm.locals) (hk : k ≤ rm.cells ∧ n ≤ rm.slots) (hst : (rest.map fun v => v.category).sum ≤ 8) (hd : decode cc pc = .ok (.invokestatic index, 3))
    (kk : mz_W Γ ρ nL k n (mz_H D cl cA ρ lay M') (pc + 3) L (r.toList ++ rest)) {st : List Value} (hs : st = As.reverse ++ rest) : mz_W Γ ρ nL k n (mz_H D cl cA ρ lay M) pc L st := by
  obtain ⟨p, l', e, R, s, m, args, below, meth, c, H0, A, Q⟩ := Γ
  obtain ⟨rfl, hx, hb, hml, hown, hts, hK, -, -, rfl⟩ := C
  obtain ⟨Qc, mc, ms, -, -, rfl⟩ := E
  obtain ⟨y1, y3, y4, y5⟩ := hY
  subst hs
  intro H ls locs hP hS hl
  have cw : CallB R s args own index y ccy nLy rety (Cond.code y ccy nLy rety :: mz_ws) { frames := fry, cells := 0, slots := 0, locals := loy } 0 0 ny ∧ (Cond.static y).before args s = true :=
    ⟨callB_of ny hts (mz_good y4) rfl rfl rfl (hts _ y3) (hts _ wl) y5 hR, hts _ y1⟩
  have hrun := va_runS (locs := locs) (cells := k) (slots := n) (meth := meth) (e := e) (below := below) (g := F0 m pc ls ((As.reverse ++ rest).map (mz_e ρ))) (rest := rest.map (mz_e ρ)) (As := As.map (mz_e ρ)) (H := H) ⟨hx, hb, hml, hown, hts⟩ F cw
    ⟨mz_blind, fun U hU hW => ⟨rfl, by rw [hU]; exact hP, mz_K.warm hW hK⟩⟩ rfl (by rw [List.length_map]; exact hn) hl.1 (by simp) (lv_room (by rw [mz_sumcat]; exact hst)) hd ⟨by simpa using hk.1, by simpa using hk.2⟩
  intro T0 hT X
  obtain ⟨v, st₀, t, T', L1, h0, X', hL, e1, e2, ⟨hv, hM', hz, hkk⟩, stp⟩ := hrun T0 hT X
  have hv : v = r.map (mz_e ρ) := by cases hv; rfl
  subst hv
  rw [h0] at hz hkk
  have hS' : va_S (mz_A ρ lay) H0 T'.heap (locs ++ L1) := by
    refine ⟨Nat.le_trans hS.1 (by rw [e1]; exact hz), fun q h1 h2 => ?_, fun q hq => ?_⟩
    · rw [e1, hkk q (Nat.lt_of_lt_of_le h1 hS.1) h2]; exact hS.2.1 q h1 h2
    · rcases List.mem_append.mp hq with h | h
      · exact hS.2.2 q h
      · exact hL q h
  obtain ⟨t2, a1, b1⟩ := kk T'.heap ls (locs ++ L1) (by rw [e1]; exact hM') hS' hl T' rfl X'
  refine ⟨t2, stp t2 ?_, b1⟩
  have : (r.map (mz_e ρ)).toList ++ rest.map (mz_e ρ) = (r.toList ++ rest).map (mz_e ρ) := by cases r <;> simp
  rw [this]
  exact a1
end MZR
end
section
section MZM
variable {Γ : mz_G} {l : Launch} {own : String} {cc : ByteArray} {nL k n : Nat} {ret : Option FieldType} {D : va_G} {cl : List vw_C} {cA : ClassId} {rm : Room} {ρ : Nat → Nat} {lay : List (Option mz_Sh)} {M : mz_Mem}
variable {pc : Nat} {L : List (Nat × Value)} {st : List Value}
theorem mz_ild {id N : Nat} {i : Int32} (C : mz_C Γ l own cc nL ret D cl [(cA, .int)] rm) (hid : lay[id]? = some (some (.inl N))) (hin : vp_in i N) (hd : decode cc pc = .ok (.iaload, 1)) (kk : mz_W Γ ρ nL k n (mz_H D cl cA ρ lay M) (pc + 1) L (.int (M id i.toNatClampNeg) :: st)) : mz_W Γ ρ nL k n (mz_H D cl cA ρ lay M) pc L (.int i :: .ref id :: st) := by
  obtain ⟨p, l', e, R, s, m, args, below, meth, c, H0, A, Q⟩ := Γ
  obtain ⟨-, hx, hb, -, -, -, hK, -⟩ := C
  exact fun H ls locs hP hS hl => va_iald hx hb hK.1 (mz_one (hP id _ hid)) 0 0 rfl rfl hin hd (kk H ls locs hP hS hl)
/-- cells that stay -/
theorem mz_H_put {H H1 : Heap} {id : Nat} {sh : mz_Sh} {f : Nat → Int32} (hI : mz_I ρ lay) (hP : mz_H D cl cA ρ lay M H) (hid : lay[id]? = some (some sh)) (he : va_at D cl (ρ id, mz_ent cA ρ (mz_s M id f) id sh) H1) (oq : ∀ q : Nat, q ≠ ρ id → H1[q]? = H[q]?) : mz_H D cl cA ρ lay (mz_s M id f) H1 := by
  intro j sh2 hj
  by_cases h : j = id
  · subst h
    rw [hid] at hj
    cases hj
    exact he
  · have h2 : mz_ent cA ρ (mz_s M id f) j sh2 = mz_ent cA ρ M j sh2 := by
      cases sh2 <;> simp only [mz_ent, mz_s_ne h]
    rw [h2]
    exact (hP j sh2 hj).kept (oq _ fun e => h (hI _ _ _ _ hj hid e))
theorem mz_upd_updV (f : Nat → Int32) (i : Nat) (x : Int32) : updV (fun j => Value.int (f j)) i (Value.int x) = fun j => Value.int (upd f i x j) := by
  funext q
  by_cases hq : q = i
  · subst hq; simp [updV, upd]
  · simp [updV, upd, hq]
theorem mz_ist {id N : Nat} {i x : Int32} (C : mz_C Γ l own cc nL ret D cl [(cA, .int)] rm) (E : ∃ Qc mc ms, mz_E Γ Qc mc ms (mz_A ρ lay)) (hI : mz_I ρ lay) (hid : lay[id]? = some (some (.inl N))) (hin : vp_in i N) (hd : decode cc pc = .ok (.iastore, 1))
    (kk : mz_W Γ ρ nL k n (mz_H D cl cA ρ lay (mz_s M id (upd (M id) i.toNatClampNeg x))) (pc + 1) L st) : mz_W Γ ρ nL k n (mz_H D cl cA ρ lay M) pc L (.int x :: .int i :: .ref id :: st) := by
  obtain ⟨p, l', e, R, s, m, args, below, meth, c, H0, A, Q⟩ := Γ
  obtain ⟨-, hx, hb, -, -, -, hK, -⟩ := C
  obtain ⟨Qc, mc, ms, -, -, rfl⟩ := E
  refine fun H ls locs hP hS hl => ?_
  have hat : H[ρ id]? = some (vp_cell cA (N, .inl (M id))) := hP id _ hid
  refine W.iast hx hb hat ((hK.1.2 0 _ rfl).1 N (fun j => .int (M id j))) (fun q => by cases q) (by show ¬ (i < 0 ∨ (arrV _ _ _).slots.size ≤ _); rw [arrV_size]; exact hin) rfl rfl hd fun H1 e1 z oq => ?_
  refine kk H1 ls _ (mz_H_put hI hP hid ?_ oq) (hS.put z oq ⟨id, _, hid, rfl⟩) hl
  show H1[ρ id]? = some (vp_cell cA (N, .inl (mz_s M id _ id)))
  rw [e1, mz_s_eq, vp_cell_i, vp_cell_i, arrV_store, mz_upd_updV]
theorem mz_fs_set (f : Nat → Int32) (l : List (Option (Option Nat))) (j : Nat) (x : Int32) (h : l[j]? = some none) : mz_fs (upd f j x) l = (mz_fs f l).set j (.int x) := by
  apply List.ext_getElem?
  intro i
  rw [mz_fs_at]
  by_cases hij : i = j
  · subst hij
    have hl : i < (mz_fs f l).length := by
      have := (List.getElem?_eq_some_iff.mp h).1
      simpa [mz_fs] using this
    rw [List.getElem?_set_self hl, h]
    simp [mz_fv, upd]
  · rw [List.getElem?_set_ne (Ne.symm hij), mz_fs_at]
    cases hl : l[i]? with
    | none => rfl
    | some o =>
      simp only [Option.map_some]
      cases o with
      | none => simp [mz_fv, upd, hij]
      | some o => cases o <;> rfl
/-- an int field of an object is written -/
theorem mz_put {id ci j index : Nat} {x : Int32} {fs : List (Option (Option Nat))} {T : u_T} {N : Nat} {Cn : String} (C : mz_C Γ l own cc nL ret D cl [(cA, .int)] rm) (E : ∃ Qc mc ms, mz_E Γ Qc mc ms (mz_A ρ lay)) (hI : mz_I ρ lay) (hid : lay[id]? = some (some (.inr (ci, fs)))) (hfs : fs[j]? = some none)
    (hcl : cl[ci]? = some (Cn, T, N)) (hj : j < N) (hin : ∀ w ∈ u_ws Cn T N, w ∈ mz_ws) (ty0 : Nat → FieldType) (hty : ∀ k, k < N → parseFieldDescriptor (T k).2.2.1 = some (ty0 k)) (hnm : ∀ a, a < N → ∀ b, b < N → a ≠ b → (T a).2.1 ≠ (T b).2.1)
    (hlink : Cond.fieldLink own index (T j).1 (T j).2.1 (T j).2.2.1 ∈ mz_ws) (hfin : (T j).2.2.2 = false) (hd0 : parseFieldDescriptor (T j).2.2.1 = some .int) (hd : decode cc pc = .ok (.putfield index, 3))
    (kk : mz_W Γ ρ nL k n (mz_H D cl cA ρ lay (mz_s M id (upd (M id) j x))) (pc + 3) L st) : mz_W Γ ρ nL k n (mz_H D cl cA ρ lay M) pc L (.int x :: .ref id :: st) := by
  obtain ⟨p, l', e, R, s, m, args, below, meth, c, H0, A, Q⟩ := Γ
  obtain ⟨-, hx, hb, -, hown, hts, hK, -⟩ := C
  obtain ⟨Qc, mc, ms, -, -, rfl⟩ := E
  refine fun H ls locs hP hS hl => ?_
  have hap := va_apart (own := own) hts hin ty0 hty hnm hK.1 hcl
  obtain ⟨r, h1, cell, q1, q2, q3, q4⟩ := hP id _ hid
  have hr : r = (Cn, T, N) := Option.some.inj (h1.symm.trans hcl)
  subst hr
  obtain ⟨hSl, hfc, kC, hkC, hkind⟩ := hK.1.1 ci _ hcl
  obtain ⟨cf, kf, fi, f, hi, hsl⟩ := hSl j hj
  have hlay := hts _ (hin _ (u_in_lay hj))
  unfold u_lay at hlay
  rw [if_neg (by rw [hfin]; decide)] at hlay
  have hst := (u_facts hfc hkC (u_lays hts hin hj) hi).1
  have h6 := u_store hfc hkC hkind hlay hi hd0 (v := .int x) rfl rfl
  refine W.putK hx hb (f := f) ⟨hown, hts _ hlink, ⟨_, _, _, hi⟩, hst⟩ (by rw [q2]; exact h6) q1 q3 (by rw [hsl]; exact k2_hasslot (q4 j hj)) rfl rfl hd fun H' e1 e2 e3 => ?_
  rw [hsl] at e1 ⊢
  refine kk H' ls _ (mz_H_put hI hP hid ?_ e3) (hS.put e2 e3 ⟨id, _, hid, rfl⟩) hl
  have hlen : j < ((mz_fs (M id) fs).map (mz_e ρ)).length := by
    have := (List.getElem?_eq_some_iff.mp hfs).1
    simpa [mz_fs] using this
  have hent : mz_ent cA ρ (mz_s M id (upd (M id) j x)) id (.inr (ci, fs)) = .inr (ci, ((mz_fs (M id) fs).map (mz_e ρ)).set j (.int x)) := by
    simp only [mz_ent, mz_s_eq]
    rw [mz_fs_set _ _ _ _ hfs, List.map_set]
    rfl
  rw [hent]
  exact ⟨_, hcl, t_OB.to (V := updV (vp_V _) j (.int x)) ⟨_, e1, q2, q3, t_set q4 hap hj (.int x)⟩ (fun q _ => vp_updV_set hlen (.int x) q)⟩
end MZM
/-! a contract over few cells, lifted to more -/
def mz_shm (ι : Nat → Nat) : mz_Sh → mz_Sh
  | .inl n => .inl n
  | .inr o => .inr (o.1, o.2.map (Option.map (Option.map ι)))
theorem mz_e_e (ρ ι : Nat → Nat) (v : Value) : mz_e ρ (mz_e ι v) = mz_e (fun k => ρ (ι k)) v := by cases v <;> rfl
theorem mz_ent_lift (cA : ClassId) (ρ ι : Nat → Nat) {M0 M : mz_Mem} {k : Nat} (sh : mz_Sh) (h : M0 k = M (ι k)) : mz_ent cA (fun k => ρ (ι k)) M0 k sh = mz_ent cA ρ M (ι k) (mz_shm ι sh) := by
  cases sh with
  | inl n => simp [mz_ent, mz_shm, h]
  | inr o =>
    simp only [mz_ent, mz_shm, h]
    congr 2
    apply List.ext_getElem?
    intro i
    rw [List.getElem?_map, List.getElem?_map, mz_fs_at, mz_fs_at, List.getElem?_map]
    cases o.2[i]? with
    | none => rfl
    | some f =>
      cases f with
      | none => rfl
      | some f => cases f <;> rfl
theorem mz_lift {l : Launch} {D : va_G} {cl : List vw_C} {cA : ClassId} {ρ ι : Nat → Nat} {lay0 lay : List (Option mz_Sh)} {y : MethodName} {cc : ByteArray} {nL fr lo : Nat} {ret : Option FieldType} {As0 As : List Value} {M0 M0' M M' : mz_Mem} {r0 r : Option Value}
    (F : mz_M l D cl cA (fun k => ρ (ι k)) lay0 y cc nL ret fr lo As0 M0 r0 M0')
    (hsub : ∀ k sh, lay0[k]? = some (some sh) → lay[ι k]? = some (some (mz_shm ι sh))) (hI : mz_I ρ lay)
    (hM : ∀ k sh, lay0[k]? = some (some sh) → M0 k = M (ι k)) (hM1 : ∀ k sh, lay0[k]? = some (some sh) → M0' k = M' (ι k))
    (hM2 : ∀ a, (∀ k sh, lay0[k]? = some (some sh) → a ≠ ι k) → M' a = M a) (hA : As = As0.map (mz_e ι)) (hr : r = r0.map (mz_e ι)) :
    mz_M l D cl cA ρ lay y cc nL ret fr lo As M r M' := by
  subst hA; subst hr
  intro p e ha hc hk s m args below hf happ hv _
  obtain ⟨rfl, hH, hK⟩ := hv
  have hA1 : ∀ q, mz_A (fun k => ρ (ι k)) lay0 q → mz_A ρ lay q := by
    rintro q ⟨k, sh, h1, rfl⟩
    exact ⟨ι k, _, hsub k sh h1, rfl⟩
  obtain ⟨n, o, h1, h2, h3, ⟨ho, hH', hF⟩, Lc, h4, h5⟩ := F p e ha hc hk s m _ below hf happ ⟨by simp only [List.map_map]; congr 2; funext v; exact mz_e_e ρ ι v, fun k sh hk2 => by rw [mz_ent_lift cA ρ ι sh (hM k sh hk2)]; exact hH _ _ (hsub k sh hk2), hK⟩ trivial
  refine ⟨n, o, h1, h2, h3, ⟨?_, ?_, hF.1, fun q hq hn => hF.2 q hq fun h => hn (hA1 q h)⟩, Lc, h4, fun q hq => hA1 _ (h5 q hq)⟩
  · rw [ho]
    congr 1
    cases r0 with
    | none => rfl
    | some v => simp only [Option.map_some]; rw [mz_e_e]
  · intro a sh ha2
    by_cases hex : ∃ k sh0, lay0[k]? = some (some sh0) ∧ a = ι k
    · obtain ⟨k, sh0, hk0, rfl⟩ := hex
      have h6 := hsub k sh0 hk0
      rw [h6] at ha2
      cases ha2
      rw [← mz_ent_lift cA ρ ι sh0 (hM1 k sh0 hk0)]
      exact hH' k sh0 hk0
    · have hne : ∀ k sh0, lay0[k]? = some (some sh0) → a ≠ ι k := fun k sh0 h7 e7 => hex ⟨k, sh0, h7, e7⟩
      have hat := hH a sh ha2
      have hent : mz_ent cA ρ M' a sh = mz_ent cA ρ M a sh := by
        cases sh <;> simp only [mz_ent, hM2 a hne]
      rw [hent]
      refine hat.kept (hF.2 _ hat.lt ?_)
      rintro ⟨k, sh0, h7, h8⟩
      exact hne k sh0 h7 (hI a (ι k) _ _ ha2 (hsub k sh0 h7) h8)
end
section
theorem iu_X0 : ∀ w ∈ u_ws RX0 TX0 9, w ∈ mz_ws := fun w h => List.mem_filter.mpr ⟨inX0 w h, List.all_eq_true.mp (show (u_ws RX0 TX0 9).all goodWord = true by decide +kernel) w h⟩
theorem iu_X1 : ∀ w ∈ u_ws RX1 TX1 4, w ∈ mz_ws := fun w h => List.mem_filter.mpr ⟨inX1 w h, List.all_eq_true.mp (show (u_ws RX1 TX1 4).all goodWord = true by decide +kernel) w h⟩
theorem iu_X2 : ∀ w ∈ u_ws RX2 TX2 8, w ∈ mz_ws := fun w h => List.mem_filter.mpr ⟨inX2 w h, List.all_eq_true.mp (show (u_ws RX2 TX2 8).all goodWord = true by decide +kernel) w h⟩
theorem iu_X3 : ∀ w ∈ u_ws RX3 TX3 2, w ∈ mz_ws := fun w h => List.mem_filter.mpr ⟨inX3 w h, List.all_eq_true.mp (show (u_ws RX3 TX3 2).all goodWord = true by decide +kernel) w h⟩
theorem iu_X4 : ∀ w ∈ u_ws RX4 TX4 7, w ∈ mz_ws := fun w h => List.mem_filter.mpr ⟨inX4 w h, List.all_eq_true.mp (show (u_ws RX4 TX4 7).all goodWord = true by decide +kernel) w h⟩
theorem iu_X5 : ∀ w ∈ u_ws RX5 TX5 5, w ∈ mz_ws := fun w h => List.mem_filter.mpr ⟨inX5 w h, List.all_eq_true.mp (show (u_ws RX5 TX5 5).all goodWord = true by decide +kernel) w h⟩
theorem iu_X6 : ∀ w ∈ u_ws RX6 TX6 1, w ∈ mz_ws := fun w h => List.mem_filter.mpr ⟨inX6 w h, List.all_eq_true.mp (show (u_ws RX6 TX6 1).all goodWord = true by decide +kernel) w h⟩
theorem iu_X7 : ∀ w ∈ u_ws RX7 TX7 10, w ∈ mz_ws := fun w h => List.mem_filter.mpr ⟨inX7 w h, List.all_eq_true.mp (show (u_ws RX7 TX7 10).all goodWord = true by decide +kernel) w h⟩
theorem iu_X8 : ∀ w ∈ u_ws RX8 TX8 7, w ∈ mz_ws := fun w h => List.mem_filter.mpr ⟨inX8 w h, List.all_eq_true.mp (show (u_ws RX8 TX8 7).all goodWord = true by decide +kernel) w h⟩
theorem iu_X9 : ∀ w ∈ u_ws RX9 TX9 4, w ∈ mz_ws := fun w h => List.mem_filter.mpr ⟨inX9 w h, List.all_eq_true.mp (show (u_ws RX9 TX9 4).all goodWord = true by decide +kernel) w h⟩
theorem hs_J6_bitCount_0f7a4 : mz_YS yJ6_bitCount_0f7a4 cJ6_bitCount_0f7a4 1 (some .int) 1 := ⟨mz_in 444 (by decide +kernel) (by decide +kernel), mz_in 80 (by decide +kernel) (by decide +kernel), mz_in 445 (by decide +kernel) (by decide +kernel), ⟨by decide +kernel, by decide +kernel, by decide +kernel⟩⟩
theorem hs_J7_fill_53178 : mz_YS yJ7_fill_53178 cJ7_fill_53178 4 none 2 := ⟨mz_in 130 (by decide +kernel) (by decide +kernel), mz_in 63 (by decide +kernel) (by decide +kernel), mz_in 131 (by decide +kernel) (by decide +kernel), ⟨by decide +kernel, by decide +kernel, by decide +kernel⟩⟩
theorem hs_J9_max_7cf53 : mz_YS yJ9_max_7cf53 cJ9_max_7cf53 2 (some .int) 2 := ⟨mz_in 1561 (by decide +kernel) (by decide +kernel), mz_in 77 (by decide +kernel) (by decide +kernel), mz_in 1562 (by decide +kernel) (by decide +kernel), ⟨by decide +kernel, by decide +kernel, by decide +kernel⟩⟩
theorem hs_J9_min_7cf53 : mz_YS yJ9_min_7cf53 cJ9_min_7cf53 2 (some .int) 2 := ⟨mz_in 707 (by decide +kernel) (by decide +kernel), mz_in 77 (by decide +kernel) (by decide +kernel), mz_in 708 (by decide +kernel) (by decide +kernel), ⟨by decide +kernel, by decide +kernel, by decide +kernel⟩⟩
theorem hy_X0_changeHabit : mz_Y yX0_changeHabit cX0_changeHabit 4 none 3 := ⟨mz_in 1042 (by decide +kernel) (by decide +kernel), mz_in 1043 (by decide +kernel) (by decide +kernel), mz_in 69 (by decide +kernel) (by decide +kernel), mz_in 1044 (by decide +kernel) (by decide +kernel), ⟨by decide +kernel, by decide +kernel, by decide +kernel⟩⟩
theorem hy_X0_copyFrom : mz_Y yX0_copyFrom cX0_copyFrom 2 none 1 := ⟨mz_in 723 (by decide +kernel) (by decide +kernel), mz_in 724 (by decide +kernel) (by decide +kernel), mz_in 69 (by decide +kernel) (by decide +kernel), mz_in 725 (by decide +kernel) (by decide +kernel), ⟨by decide +kernel, by decide +kernel, by decide +kernel⟩⟩
theorem hy_X0_countKnowing : mz_Y yX0_countKnowing cX0_countKnowing 4 (some .int) 1 := ⟨mz_in 669 (by decide +kernel) (by decide +kernel), mz_in 670 (by decide +kernel) (by decide +kernel), mz_in 69 (by decide +kernel) (by decide +kernel), mz_in 671 (by decide +kernel) (by decide +kernel), ⟨by decide +kernel, by decide +kernel, by decide +kernel⟩⟩
theorem hy_X0_countKnown : mz_Y yX0_countKnown cX0_countKnown 3 (some .int) 0 := ⟨mz_in 432 (by decide +kernel) (by decide +kernel), mz_in 433 (by decide +kernel) (by decide +kernel), mz_in 69 (by decide +kernel) (by decide +kernel), mz_in 434 (by decide +kernel) (by decide +kernel), ⟨by decide +kernel, by decide +kernel, by decide +kernel⟩⟩
theorem hy_X0_countKnownBy : mz_Y yX0_countKnownBy cX0_countKnownBy 2 (some .int) 1 := ⟨mz_in 436 (by decide +kernel) (by decide +kernel), mz_in 437 (by decide +kernel) (by decide +kernel), mz_in 69 (by decide +kernel) (by decide +kernel), mz_in 438 (by decide +kernel) (by decide +kernel), ⟨by decide +kernel, by decide +kernel, by decide +kernel⟩⟩
theorem hy_X0_enter : mz_Y yX0_enter cX0_enter 3 (some .int) 1 := ⟨mz_in 1038 (by decide +kernel) (by decide +kernel), mz_in 1039 (by decide +kernel) (by decide +kernel), mz_in 69 (by decide +kernel) (by decide +kernel), mz_in 1040 (by decide +kernel) (by decide +kernel), ⟨by decide +kernel, by decide +kernel, by decide +kernel⟩⟩
-- X0_init: no words (333, None, 69, None)
theorem hy_X0_knownByAny : mz_Y yX0_knownByAny cX0_knownByAny 3 (some .int) 0 := ⟨mz_in 539 (by decide +kernel) (by decide +kernel), mz_in 540 (by decide +kernel) (by decide +kernel), mz_in 69 (by decide +kernel) (by decide +kernel), mz_in 541 (by decide +kernel) (by decide +kernel), ⟨by decide +kernel, by decide +kernel, by decide +kernel⟩⟩
theorem hy_X0_knows : mz_Y yX0_knows cX0_knows 3 (some .boolean) 2 := ⟨mz_in 673 (by decide +kernel) (by decide +kernel), mz_in 674 (by decide +kernel) (by decide +kernel), mz_in 69 (by decide +kernel) (by decide +kernel), mz_in 675 (by decide +kernel) (by decide +kernel), ⟨by decide +kernel, by decide +kernel, by decide +kernel⟩⟩
theorem hy_X0_see : mz_Y yX0_see cX0_see 5 none 3 := ⟨mz_in 878 (by decide +kernel) (by decide +kernel), mz_in 879 (by decide +kernel) (by decide +kernel), mz_in 69 (by decide +kernel) (by decide +kernel), mz_in 880 (by decide +kernel) (by decide +kernel), ⟨by decide +kernel, by decide +kernel, by decide +kernel⟩⟩
theorem hy_X0_walk : mz_Y yX0_walk cX0_walk 3 none 2 := ⟨mz_in 864 (by decide +kernel) (by decide +kernel), mz_in 865 (by decide +kernel) (by decide +kernel), mz_in 69 (by decide +kernel) (by decide +kernel), mz_in 866 (by decide +kernel) (by decide +kernel), ⟨by decide +kernel, by decide +kernel, by decide +kernel⟩⟩
theorem hy_X1_anyIsPlayed : mz_Y yX1_anyIsPlayed cX1_anyIsPlayed 2 (some .boolean) 0 := ⟨mz_in 1020 (by decide +kernel) (by decide +kernel), mz_in 1021 (by decide +kernel) (by decide +kernel), mz_in 66 (by decide +kernel) (by decide +kernel), mz_in 1022 (by decide +kernel) (by decide +kernel), ⟨by decide +kernel, by decide +kernel, by decide +kernel⟩⟩
theorem hy_X1_copyFrom : mz_Y yX1_copyFrom cX1_copyFrom 2 none 1 := ⟨mz_in 699 (by decide +kernel) (by decide +kernel), mz_in 700 (by decide +kernel) (by decide +kernel), mz_in 66 (by decide +kernel) (by decide +kernel), mz_in 701 (by decide +kernel) (by decide +kernel), ⟨by decide +kernel, by decide +kernel, by decide +kernel⟩⟩
theorem hy_X1_endDouble : mz_Y yX1_endDouble cX1_endDouble 2 none 1 := ⟨mz_in 1122 (by decide +kernel) (by decide +kernel), mz_in 1123 (by decide +kernel) (by decide +kernel), mz_in 66 (by decide +kernel) (by decide +kernel), mz_in 1124 (by decide +kernel) (by decide +kernel), ⟨by decide +kernel, by decide +kernel, by decide +kernel⟩⟩
theorem hy_X1_enter : mz_Y yX1_enter cX1_enter 3 none 2 := ⟨mz_in 986 (by decide +kernel) (by decide +kernel), mz_in 987 (by decide +kernel) (by decide +kernel), mz_in 66 (by decide +kernel) (by decide +kernel), mz_in 988 (by decide +kernel) (by decide +kernel), ⟨by decide +kernel, by decide +kernel, by decide +kernel⟩⟩
-- X1_init: no words (241, None, 66, None)
theorem hy_X1_isSingle : mz_Y yX1_isSingle cX1_isSingle 2 (some .boolean) 1 := ⟨mz_in 642 (by decide +kernel) (by decide +kernel), mz_in 643 (by decide +kernel) (by decide +kernel), mz_in 66 (by decide +kernel) (by decide +kernel), mz_in 644 (by decide +kernel) (by decide +kernel), ⟨by decide +kernel, by decide +kernel, by decide +kernel⟩⟩
theorem hy_X1_rolesOf : mz_Y yX1_rolesOf cX1_rolesOf 4 (some .int) 1 := ⟨mz_in 622 (by decide +kernel) (by decide +kernel), mz_in 623 (by decide +kernel) (by decide +kernel), mz_in 66 (by decide +kernel) (by decide +kernel), mz_in 624 (by decide +kernel) (by decide +kernel), ⟨by decide +kernel, by decide +kernel, by decide +kernel⟩⟩
theorem hy_X1_setIn : mz_Y yX1_setIn cX1_setIn 4 (some .int) 1 := ⟨mz_in 577 (by decide +kernel) (by decide +kernel), mz_in 578 (by decide +kernel) (by decide +kernel), mz_in 66 (by decide +kernel) (by decide +kernel), mz_in 579 (by decide +kernel) (by decide +kernel), ⟨by decide +kernel, by decide +kernel, by decide +kernel⟩⟩
theorem hy_X1_startDouble : mz_Y yX1_startDouble cX1_startDouble 3 none 2 := ⟨mz_in 1105 (by decide +kernel) (by decide +kernel), mz_in 1106 (by decide +kernel) (by decide +kernel), mz_in 66 (by decide +kernel) (by decide +kernel), mz_in 1107 (by decide +kernel) (by decide +kernel), ⟨by decide +kernel, by decide +kernel, by decide +kernel⟩⟩
theorem hy_X1_walk : mz_Y yX1_walk cX1_walk 5 none 2 := ⟨mz_in 786 (by decide +kernel) (by decide +kernel), mz_in 787 (by decide +kernel) (by decide +kernel), mz_in 66 (by decide +kernel) (by decide +kernel), mz_in 788 (by decide +kernel) (by decide +kernel), ⟨by decide +kernel, by decide +kernel, by decide +kernel⟩⟩
theorem hy_X1_withDoubles : mz_Y yX1_withDoubles cX1_withDoubles 5 (some .int) 1 := ⟨mz_in 819 (by decide +kernel) (by decide +kernel), mz_in 820 (by decide +kernel) (by decide +kernel), mz_in 66 (by decide +kernel) (by decide +kernel), mz_in 821 (by decide +kernel) (by decide +kernel), ⟨by decide +kernel, by decide +kernel, by decide +kernel⟩⟩
theorem hy_X2_beginLoop : mz_Y yX2_beginLoop cX2_beginLoop 1 none 0 := ⟨mz_in 738 (by decide +kernel) (by decide +kernel), mz_in 9 (by decide +kernel) (by decide +kernel), mz_in 65 (by decide +kernel) (by decide +kernel), mz_in 739 (by decide +kernel) (by decide +kernel), ⟨by decide +kernel, by decide +kernel, by decide +kernel⟩⟩
theorem hy_X2_canBegin : mz_Y yX2_canBegin cX2_canBegin 4 (some .boolean) 1 := ⟨mz_in 815 (by decide +kernel) (by decide +kernel), mz_in 16 (by decide +kernel) (by decide +kernel), mz_in 65 (by decide +kernel) (by decide +kernel), mz_in 816 (by decide +kernel) (by decide +kernel), ⟨by decide +kernel, by decide +kernel, by decide +kernel⟩⟩
theorem hy_X2_canDouble : mz_Y yX2_canDouble cX2_canDouble 4 (some .boolean) 2 := ⟨mz_in 634 (by decide +kernel) (by decide +kernel), mz_in 635 (by decide +kernel) (by decide +kernel), mz_in 65 (by decide +kernel) (by decide +kernel), mz_in 636 (by decide +kernel) (by decide +kernel), ⟨by decide +kernel, by decide +kernel, by decide +kernel⟩⟩
theorem hy_X2_canTake : mz_Y yX2_canTake cX2_canTake 4 (some .boolean) 2 := ⟨mz_in 1074 (by decide +kernel) (by decide +kernel), mz_in 1075 (by decide +kernel) (by decide +kernel), mz_in 65 (by decide +kernel) (by decide +kernel), mz_in 1076 (by decide +kernel) (by decide +kernel), ⟨by decide +kernel, by decide +kernel, by decide +kernel⟩⟩
theorem hy_X2_continueScene : mz_Y yX2_continueScene cX2_continueScene 3 none 1 := ⟨mz_in 798 (by decide +kernel) (by decide +kernel), mz_in 14 (by decide +kernel) (by decide +kernel), mz_in 65 (by decide +kernel) (by decide +kernel), mz_in 799 (by decide +kernel) (by decide +kernel), ⟨by decide +kernel, by decide +kernel, by decide +kernel⟩⟩
theorem hy_X2_copyFrom : mz_Y yX2_copyFrom cX2_copyFrom 2 none 1 := ⟨mz_in 695 (by decide +kernel) (by decide +kernel), mz_in 696 (by decide +kernel) (by decide +kernel), mz_in 65 (by decide +kernel) (by decide +kernel), mz_in 697 (by decide +kernel) (by decide +kernel), ⟨by decide +kernel, by decide +kernel, by decide +kernel⟩⟩
theorem hy_X2_emptierRoom : mz_Y yX2_emptierRoom cX2_emptierRoom 4 (some .int) 1 := ⟨mz_in 846 (by decide +kernel) (by decide +kernel), mz_in 20 (by decide +kernel) (by decide +kernel), mz_in 65 (by decide +kernel) (by decide +kernel), mz_in 847 (by decide +kernel) (by decide +kernel), ⟨by decide +kernel, by decide +kernel, by decide +kernel⟩⟩
theorem hy_X2_greatestTrack : mz_Y yX2_greatestTrack cX2_greatestTrack 4 (some .int) 1 := ⟨mz_in 806 (by decide +kernel) (by decide +kernel), mz_in 15 (by decide +kernel) (by decide +kernel), mz_in 65 (by decide +kernel) (by decide +kernel), mz_in 807 (by decide +kernel) (by decide +kernel), ⟨by decide +kernel, by decide +kernel, by decide +kernel⟩⟩
theorem hy_X2_hasProp : mz_Y yX2_hasProp cX2_hasProp 4 (some .boolean) 1 := ⟨mz_in 824 (by decide +kernel) (by decide +kernel), mz_in 17 (by decide +kernel) (by decide +kernel), mz_in 65 (by decide +kernel) (by decide +kernel), mz_in 825 (by decide +kernel) (by decide +kernel), ⟨by decide +kernel, by decide +kernel, by decide +kernel⟩⟩
-- X2_init: no words (233, None, 65, None)
theorem hy_X2_isFull : mz_Y yX2_isFull cX2_isFull 2 (some .boolean) 1 := ⟨mz_in 859 (by decide +kernel) (by decide +kernel), mz_in 860 (by decide +kernel) (by decide +kernel), mz_in 65 (by decide +kernel) (by decide +kernel), mz_in 861 (by decide +kernel) (by decide +kernel), ⟨by decide +kernel, by decide +kernel, by decide +kernel⟩⟩
theorem hy_X2_isInUse : mz_Y yX2_isInUse cX2_isInUse 4 (some .boolean) 2 := ⟨mz_in 1080 (by decide +kernel) (by decide +kernel), mz_in 31 (by decide +kernel) (by decide +kernel), mz_in 65 (by decide +kernel) (by decide +kernel), mz_in 1081 (by decide +kernel) (by decide +kernel), ⟨by decide +kernel, by decide +kernel, by decide +kernel⟩⟩
theorem hy_X2_moveGuest : mz_Y yX2_moveGuest cX2_moveGuest 4 none 3 := ⟨mz_in 856 (by decide +kernel) (by decide +kernel), mz_in 22 (by decide +kernel) (by decide +kernel), mz_in 65 (by decide +kernel) (by decide +kernel), mz_in 857 (by decide +kernel) (by decide +kernel), ⟨by decide +kernel, by decide +kernel, by decide +kernel⟩⟩
theorem hy_X2_moveGuests : mz_Y yX2_moveGuests cX2_moveGuests 4 none 0 := ⟨mz_in 837 (by decide +kernel) (by decide +kernel), mz_in 18 (by decide +kernel) (by decide +kernel), mz_in 65 (by decide +kernel) (by decide +kernel), mz_in 838 (by decide +kernel) (by decide +kernel), ⟨by decide +kernel, by decide +kernel, by decide +kernel⟩⟩
theorem hy_X2_moveTrack : mz_Y yX2_moveTrack cX2_moveTrack 5 none 2 := ⟨mz_in 782 (by decide +kernel) (by decide +kernel), mz_in 12 (by decide +kernel) (by decide +kernel), mz_in 65 (by decide +kernel) (by decide +kernel), mz_in 783 (by decide +kernel) (by decide +kernel), ⟨by decide +kernel, by decide +kernel, by decide +kernel⟩⟩
theorem hy_X2_moveTracks : mz_Y yX2_moveTracks cX2_moveTracks 5 none 0 := ⟨mz_in 776 (by decide +kernel) (by decide +kernel), mz_in 11 (by decide +kernel) (by decide +kernel), mz_in 65 (by decide +kernel) (by decide +kernel), mz_in 777 (by decide +kernel) (by decide +kernel), ⟨by decide +kernel, by decide +kernel, by decide +kernel⟩⟩
theorem hy_X2_nextRoomOf : mz_Y yX2_nextRoomOf cX2_nextRoomOf 3 (some .int) 2 := ⟨mz_in 842 (by decide +kernel) (by decide +kernel), mz_in 19 (by decide +kernel) (by decide +kernel), mz_in 65 (by decide +kernel) (by decide +kernel), mz_in 843 (by decide +kernel) (by decide +kernel), ⟨by decide +kernel, by decide +kernel, by decide +kernel⟩⟩
theorem hy_X2_nextRoomToScene : mz_Y yX2_nextRoomToScene cX2_nextRoomToScene 8 (some .int) 2 := ⟨mz_in 851 (by decide +kernel) (by decide +kernel), mz_in 21 (by decide +kernel) (by decide +kernel), mz_in 65 (by decide +kernel) (by decide +kernel), mz_in 852 (by decide +kernel) (by decide +kernel), ⟨by decide +kernel, by decide +kernel, by decide +kernel⟩⟩
theorem hy_X2_performScenes : mz_Y yX2_performScenes cX2_performScenes 3 none 0 := ⟨mz_in 793 (by decide +kernel) (by decide +kernel), mz_in 13 (by decide +kernel) (by decide +kernel), mz_in 65 (by decide +kernel) (by decide +kernel), mz_in 794 (by decide +kernel) (by decide +kernel), ⟨by decide +kernel, by decide +kernel, by decide +kernel⟩⟩
theorem hy_X2_roomOfProp : mz_Y yX2_roomOfProp cX2_roomOfProp 2 (some .int) 1 := ⟨mz_in 690 (by decide +kernel) (by decide +kernel), mz_in 691 (by decide +kernel) (by decide +kernel), mz_in 65 (by decide +kernel) (by decide +kernel), mz_in 692 (by decide +kernel) (by decide +kernel), ⟨by decide +kernel, by decide +kernel, by decide +kernel⟩⟩
theorem hy_X2_run : mz_Y yX2_run cX2_run 3 none 1 := ⟨mz_in 733 (by decide +kernel) (by decide +kernel), mz_in 734 (by decide +kernel) (by decide +kernel), mz_in 65 (by decide +kernel) (by decide +kernel), mz_in 735 (by decide +kernel) (by decide +kernel), ⟨by decide +kernel, by decide +kernel, by decide +kernel⟩⟩
theorem hy_X2_showScene : mz_Y yX2_showScene cX2_showScene 6 none 1 := ⟨mz_in 875 (by decide +kernel) (by decide +kernel), mz_in 24 (by decide +kernel) (by decide +kernel), mz_in 65 (by decide +kernel) (by decide +kernel), mz_in 876 (by decide +kernel) (by decide +kernel), ⟨by decide +kernel, by decide +kernel, by decide +kernel⟩⟩
theorem hy_X2_showScenes : mz_Y yX2_showScenes cX2_showScenes 2 none 0 := ⟨mz_in 871 (by decide +kernel) (by decide +kernel), mz_in 23 (by decide +kernel) (by decide +kernel), mz_in 65 (by decide +kernel) (by decide +kernel), mz_in 872 (by decide +kernel) (by decide +kernel), ⟨by decide +kernel, by decide +kernel, by decide +kernel⟩⟩
theorem hy_X3_copyFrom : mz_Y yX3_copyFrom cX3_copyFrom 2 none 1 := ⟨mz_in 728 (by decide +kernel) (by decide +kernel), mz_in 729 (by decide +kernel) (by decide +kernel), mz_in 62 (by decide +kernel) (by decide +kernel), mz_in 730 (by decide +kernel) (by decide +kernel), ⟨by decide +kernel, by decide +kernel, by decide +kernel⟩⟩
theorem hy_X3_fill : mz_Y yX3_fill cX3_fill 2 none 1 := ⟨mz_in 122 (by decide +kernel) (by decide +kernel), mz_in 123 (by decide +kernel) (by decide +kernel), mz_in 62 (by decide +kernel) (by decide +kernel), mz_in 124 (by decide +kernel) (by decide +kernel), ⟨by decide +kernel, by decide +kernel, by decide +kernel⟩⟩
theorem hy_X3_get : mz_Y yX3_get cX3_get 3 (some .int) 2 := ⟨mz_in 595 (by decide +kernel) (by decide +kernel), mz_in 596 (by decide +kernel) (by decide +kernel), mz_in 62 (by decide +kernel) (by decide +kernel), mz_in 597 (by decide +kernel) (by decide +kernel), ⟨by decide +kernel, by decide +kernel, by decide +kernel⟩⟩
-- X3_init: no words (109, None, 62, None)
theorem hy_X3_set : mz_Y yX3_set cX3_set 4 none 3 := ⟨mz_in 883 (by decide +kernel) (by decide +kernel), mz_in 884 (by decide +kernel) (by decide +kernel), mz_in 62 (by decide +kernel) (by decide +kernel), mz_in 885 (by decide +kernel) (by decide +kernel), ⟨by decide +kernel, by decide +kernel, by decide +kernel⟩⟩
theorem hy_X4_addDoor : mz_Y yX4_addDoor cX4_addDoor 7 (some .int) 3 := ⟨mz_in 956 (by decide +kernel) (by decide +kernel), mz_in 957 (by decide +kernel) (by decide +kernel), mz_in 60 (by decide +kernel) (by decide +kernel), mz_in 958 (by decide +kernel) (by decide +kernel), ⟨by decide +kernel, by decide +kernel, by decide +kernel⟩⟩
theorem hy_X4_addRoom : mz_Y yX4_addRoom cX4_addRoom 3 (some .int) 1 := ⟨mz_in 940 (by decide +kernel) (by decide +kernel), mz_in 941 (by decide +kernel) (by decide +kernel), mz_in 60 (by decide +kernel) (by decide +kernel), mz_in 942 (by decide +kernel) (by decide +kernel), ⟨by decide +kernel, by decide +kernel, by decide +kernel⟩⟩
theorem hy_X4_findNext : mz_Y yX4_findNext cX4_findNext 5 (some .int) 2 := ⟨mz_in 970 (by decide +kernel) (by decide +kernel), mz_in 30 (by decide +kernel) (by decide +kernel), mz_in 60 (by decide +kernel) (by decide +kernel), mz_in 971 (by decide +kernel) (by decide +kernel), ⟨by decide +kernel, by decide +kernel, by decide +kernel⟩⟩
-- X4_init: no words (92, None, 60, None)
theorem hy_X4_shortenWay : mz_Y yX4_shortenWay cX4_shortenWay 7 none 4 := ⟨mz_in 966 (by decide +kernel) (by decide +kernel), mz_in 29 (by decide +kernel) (by decide +kernel), mz_in 60 (by decide +kernel) (by decide +kernel), mz_in 967 (by decide +kernel) (by decide +kernel), ⟨by decide +kernel, by decide +kernel, by decide +kernel⟩⟩
theorem hy_X4_shortenWays : mz_Y yX4_shortenWays cX4_shortenWays 5 none 2 := ⟨mz_in 961 (by decide +kernel) (by decide +kernel), mz_in 28 (by decide +kernel) (by decide +kernel), mz_in 60 (by decide +kernel) (by decide +kernel), mz_in 962 (by decide +kernel) (by decide +kernel), ⟨by decide +kernel, by decide +kernel, by decide +kernel⟩⟩
theorem hy_X5_copyFrom : mz_Y yX5_copyFrom cX5_copyFrom 2 none 1 := ⟨mz_in 718 (by decide +kernel) (by decide +kernel), mz_in 719 (by decide +kernel) (by decide +kernel), mz_in 68 (by decide +kernel) (by decide +kernel), mz_in 720 (by decide +kernel) (by decide +kernel), ⟨by decide +kernel, by decide +kernel, by decide +kernel⟩⟩
theorem hy_X5_giveToGuest : mz_Y yX5_giveToGuest cX5_giveToGuest 3 none 2 := ⟨mz_in 1084 (by decide +kernel) (by decide +kernel), mz_in 1085 (by decide +kernel) (by decide +kernel), mz_in 68 (by decide +kernel) (by decide +kernel), mz_in 1086 (by decide +kernel) (by decide +kernel), ⟨by decide +kernel, by decide +kernel, by decide +kernel⟩⟩
theorem hy_X5_giveToTrack : mz_Y yX5_giveToTrack cX5_giveToTrack 3 none 2 := ⟨mz_in 809 (by decide +kernel) (by decide +kernel), mz_in 810 (by decide +kernel) (by decide +kernel), mz_in 68 (by decide +kernel) (by decide +kernel), mz_in 811 (by decide +kernel) (by decide +kernel), ⟨by decide +kernel, by decide +kernel, by decide +kernel⟩⟩
theorem hy_X5_goHome : mz_Y yX5_goHome cX5_goHome 2 none 0 := ⟨mz_in 765 (by decide +kernel) (by decide +kernel), mz_in 766 (by decide +kernel) (by decide +kernel), mz_in 68 (by decide +kernel) (by decide +kernel), mz_in 767 (by decide +kernel) (by decide +kernel), ⟨by decide +kernel, by decide +kernel, by decide +kernel⟩⟩
theorem hy_X5_heldByGuest : mz_Y yX5_heldByGuest cX5_heldByGuest 3 (some .int) 1 := ⟨mz_in 901 (by decide +kernel) (by decide +kernel), mz_in 902 (by decide +kernel) (by decide +kernel), mz_in 68 (by decide +kernel) (by decide +kernel), mz_in 903 (by decide +kernel) (by decide +kernel), ⟨by decide +kernel, by decide +kernel, by decide +kernel⟩⟩
-- X5_init: no words (303, None, 68, None)
theorem hy_X5_lay : mz_Y yX5_lay cX5_lay 3 none 2 := ⟨mz_in 769 (by decide +kernel) (by decide +kernel), mz_in 770 (by decide +kernel) (by decide +kernel), mz_in 68 (by decide +kernel) (by decide +kernel), mz_in 771 (by decide +kernel) (by decide +kernel), ⟨by decide +kernel, by decide +kernel, by decide +kernel⟩⟩
theorem hy_X5_lyingIn : mz_Y yX5_lyingIn cX5_lyingIn 4 (some .int) 1 := ⟨mz_in 586 (by decide +kernel) (by decide +kernel), mz_in 587 (by decide +kernel) (by decide +kernel), mz_in 68 (by decide +kernel) (by decide +kernel), mz_in 588 (by decide +kernel) (by decide +kernel), ⟨by decide +kernel, by decide +kernel, by decide +kernel⟩⟩
theorem hy_X6_add : mz_Y yX6_add cX6_add 3 none 2 := ⟨mz_in 761 (by decide +kernel) (by decide +kernel), mz_in 762 (by decide +kernel) (by decide +kernel), mz_in 61 (by decide +kernel) (by decide +kernel), mz_in 763 (by decide +kernel) (by decide +kernel), ⟨by decide +kernel, by decide +kernel, by decide +kernel⟩⟩
theorem hy_X6_copyFrom : mz_Y yX6_copyFrom cX6_copyFrom 2 none 1 := ⟨mz_in 703 (by decide +kernel) (by decide +kernel), mz_in 704 (by decide +kernel) (by decide +kernel), mz_in 61 (by decide +kernel) (by decide +kernel), mz_in 705 (by decide +kernel) (by decide +kernel), ⟨by decide +kernel, by decide +kernel, by decide +kernel⟩⟩
theorem hy_X6_fill : mz_Y yX6_fill cX6_fill 2 none 1 := ⟨mz_in 126 (by decide +kernel) (by decide +kernel), mz_in 127 (by decide +kernel) (by decide +kernel), mz_in 61 (by decide +kernel) (by decide +kernel), mz_in 128 (by decide +kernel) (by decide +kernel), ⟨by decide +kernel, by decide +kernel, by decide +kernel⟩⟩
theorem hy_X6_get : mz_Y yX6_get cX6_get 2 (some .int) 1 := ⟨mz_in 440 (by decide +kernel) (by decide +kernel), mz_in 441 (by decide +kernel) (by decide +kernel), mz_in 61 (by decide +kernel) (by decide +kernel), mz_in 442 (by decide +kernel) (by decide +kernel), ⟨by decide +kernel, by decide +kernel, by decide +kernel⟩⟩
-- X6_init: no words (98, None, 61, None)
theorem hy_X6_set : mz_Y yX6_set cX6_set 3 none 2 := ⟨mz_in 757 (by decide +kernel) (by decide +kernel), mz_in 758 (by decide +kernel) (by decide +kernel), mz_in 61 (by decide +kernel) (by decide +kernel), mz_in 759 (by decide +kernel) (by decide +kernel), ⟨by decide +kernel, by decide +kernel, by decide +kernel⟩⟩
theorem hy_X6_sum : mz_Y yX6_sum cX6_sum 3 (some .int) 0 := ⟨mz_in 535 (by decide +kernel) (by decide +kernel), mz_in 536 (by decide +kernel) (by decide +kernel), mz_in 61 (by decide +kernel) (by decide +kernel), mz_in 537 (by decide +kernel) (by decide +kernel), ⟨by decide +kernel, by decide +kernel, by decide +kernel⟩⟩
theorem hy_X7_addProp : mz_Y yX7_addProp cX7_addProp 3 (some .int) 1 := ⟨mz_in 998 (by decide +kernel) (by decide +kernel), mz_in 999 (by decide +kernel) (by decide +kernel), mz_in 64 (by decide +kernel) (by decide +kernel), mz_in 1000 (by decide +kernel) (by decide +kernel), ⟨by decide +kernel, by decide +kernel, by decide +kernel⟩⟩
theorem hy_X7_addScene : mz_Y yX7_addScene cX7_addScene 7 (some .int) 5 := ⟨mz_in 1025 (by decide +kernel) (by decide +kernel), mz_in 1026 (by decide +kernel) (by decide +kernel), mz_in 64 (by decide +kernel) (by decide +kernel), mz_in 1027 (by decide +kernel) (by decide +kernel), ⟨by decide +kernel, by decide +kernel, by decide +kernel⟩⟩
theorem hy_X7_addTrack : mz_Y yX7_addTrack cX7_addTrack 3 (some .int) 1 := ⟨mz_in 981 (by decide +kernel) (by decide +kernel), mz_in 982 (by decide +kernel) (by decide +kernel), mz_in 64 (by decide +kernel) (by decide +kernel), mz_in 983 (by decide +kernel) (by decide +kernel), ⟨by decide +kernel, by decide +kernel, by decide +kernel⟩⟩
theorem hy_X7_areTracks : mz_Y yX7_areTracks cX7_areTracks 2 (some .boolean) 1 := ⟨mz_in 1014 (by decide +kernel) (by decide +kernel), mz_in 1015 (by decide +kernel) (by decide +kernel), mz_in 64 (by decide +kernel) (by decide +kernel), mz_in 1016 (by decide +kernel) (by decide +kernel), ⟨by decide +kernel, by decide +kernel, by decide +kernel⟩⟩
theorem hy_X7_countScenesOf : mz_Y yX7_countScenesOf cX7_countScenesOf 4 (some .int) 1 := ⟨mz_in 1109 (by decide +kernel) (by decide +kernel), mz_in 1110 (by decide +kernel) (by decide +kernel), mz_in 64 (by decide +kernel) (by decide +kernel), mz_in 1111 (by decide +kernel) (by decide +kernel), ⟨by decide +kernel, by decide +kernel, by decide +kernel⟩⟩
theorem hy_X7_has : mz_Y yX7_has cX7_has 3 (some .boolean) 2 := ⟨mz_in 617 (by decide +kernel) (by decide +kernel), mz_in 618 (by decide +kernel) (by decide +kernel), mz_in 64 (by decide +kernel) (by decide +kernel), mz_in 619 (by decide +kernel) (by decide +kernel), ⟨by decide +kernel, by decide +kernel, by decide +kernel⟩⟩
-- X7_init: no words (169, None, 64, None)
theorem hy_X7_overlap : mz_Y yX7_overlap cX7_overlap 4 (some .boolean) 2 := ⟨mz_in 647 (by decide +kernel) (by decide +kernel), mz_in 648 (by decide +kernel) (by decide +kernel), mz_in 64 (by decide +kernel) (by decide +kernel), mz_in 649 (by decide +kernel) (by decide +kernel), ⟨by decide +kernel, by decide +kernel, by decide +kernel⟩⟩
theorem hy_X7_overlapsSceneOf : mz_Y yX7_overlapsSceneOf cX7_overlapsSceneOf 7 (some .boolean) 3 := ⟨mz_in 652 (by decide +kernel) (by decide +kernel), mz_in 653 (by decide +kernel) (by decide +kernel), mz_in 64 (by decide +kernel) (by decide +kernel), mz_in 654 (by decide +kernel) (by decide +kernel), ⟨by decide +kernel, by decide +kernel, by decide +kernel⟩⟩
theorem hy_X8_begin : mz_Y yX8_begin cX8_begin 2 none 1 := ⟨mz_in 828 (by decide +kernel) (by decide +kernel), mz_in 829 (by decide +kernel) (by decide +kernel), mz_in 67 (by decide +kernel) (by decide +kernel), mz_in 830 (by decide +kernel) (by decide +kernel), ⟨by decide +kernel, by decide +kernel, by decide +kernel⟩⟩
theorem hy_X8_busyTracks : mz_Y yX8_busyTracks cX8_busyTracks 3 (some .int) 0 := ⟨mz_in 638 (by decide +kernel) (by decide +kernel), mz_in 639 (by decide +kernel) (by decide +kernel), mz_in 67 (by decide +kernel) (by decide +kernel), mz_in 640 (by decide +kernel) (by decide +kernel), ⟨by decide +kernel, by decide +kernel, by decide +kernel⟩⟩
theorem hy_X8_copyFrom : mz_Y yX8_copyFrom cX8_copyFrom 2 none 1 := ⟨mz_in 713 (by decide +kernel) (by decide +kernel), mz_in 714 (by decide +kernel) (by decide +kernel), mz_in 67 (by decide +kernel) (by decide +kernel), mz_in 715 (by decide +kernel) (by decide +kernel), ⟨by decide +kernel, by decide +kernel, by decide +kernel⟩⟩
theorem hy_X8_countRunning : mz_Y yX8_countRunning cX8_countRunning 3 (some .int) 0 := ⟨mz_in 530 (by decide +kernel) (by decide +kernel), mz_in 531 (by decide +kernel) (by decide +kernel), mz_in 67 (by decide +kernel) (by decide +kernel), mz_in 532 (by decide +kernel) (by decide +kernel), ⟨by decide +kernel, by decide +kernel, by decide +kernel⟩⟩
theorem hy_X8_cut : mz_Y yX8_cut cX8_cut 2 none 1 := ⟨mz_in 754 (by decide +kernel) (by decide +kernel), mz_in 10 (by decide +kernel) (by decide +kernel), mz_in 67 (by decide +kernel) (by decide +kernel), mz_in 755 (by decide +kernel) (by decide +kernel), ⟨by decide +kernel, by decide +kernel, by decide +kernel⟩⟩
theorem hy_X8_delay : mz_Y yX8_delay cX8_delay 2 none 1 := ⟨mz_in 832 (by decide +kernel) (by decide +kernel), mz_in 833 (by decide +kernel) (by decide +kernel), mz_in 67 (by decide +kernel) (by decide +kernel), mz_in 834 (by decide +kernel) (by decide +kernel), ⟨by decide +kernel, by decide +kernel, by decide +kernel⟩⟩
theorem hy_X8_goOn : mz_Y yX8_goOn cX8_goOn 2 none 1 := ⟨mz_in 801 (by decide +kernel) (by decide +kernel), mz_in 802 (by decide +kernel) (by decide +kernel), mz_in 67 (by decide +kernel) (by decide +kernel), mz_in 803 (by decide +kernel) (by decide +kernel), ⟨by decide +kernel, by decide +kernel, by decide +kernel⟩⟩
-- X8_init: no words (267, None, 67, None)
theorem hy_X8_nextSceneOf : mz_Y yX8_nextSceneOf cX8_nextSceneOf 4 (some .int) 1 := ⟨mz_in 626 (by decide +kernel) (by decide +kernel), mz_in 627 (by decide +kernel) (by decide +kernel), mz_in 67 (by decide +kernel) (by decide +kernel), mz_in 628 (by decide +kernel) (by decide +kernel), ⟨by decide +kernel, by decide +kernel, by decide +kernel⟩⟩
theorem hy_X8_restart : mz_Y yX8_restart cX8_restart 2 none 0 := ⟨mz_in 741 (by decide +kernel) (by decide +kernel), mz_in 742 (by decide +kernel) (by decide +kernel), mz_in 67 (by decide +kernel) (by decide +kernel), mz_in 743 (by decide +kernel) (by decide +kernel), ⟨by decide +kernel, by decide +kernel, by decide +kernel⟩⟩
theorem hy_X8_runningIn : mz_Y yX8_runningIn cX8_runningIn 4 (some .int) 1 := ⟨mz_in 582 (by decide +kernel) (by decide +kernel), mz_in 583 (by decide +kernel) (by decide +kernel), mz_in 67 (by decide +kernel) (by decide +kernel), mz_in 584 (by decide +kernel) (by decide +kernel), ⟨by decide +kernel, by decide +kernel, by decide +kernel⟩⟩
theorem hy_X8_runningWith : mz_Y yX8_runningWith cX8_runningWith 3 (some .int) 1 := ⟨mz_in 613 (by decide +kernel) (by decide +kernel), mz_in 614 (by decide +kernel) (by decide +kernel), mz_in 67 (by decide +kernel) (by decide +kernel), mz_in 615 (by decide +kernel) (by decide +kernel), ⟨by decide +kernel, by decide +kernel, by decide +kernel⟩⟩
theorem hy_X8_runs : mz_Y yX8_runs cX8_runs 2 (some .boolean) 1 := ⟨mz_in 749 (by decide +kernel) (by decide +kernel), mz_in 750 (by decide +kernel) (by decide +kernel), mz_in 67 (by decide +kernel) (by decide +kernel), mz_in 751 (by decide +kernel) (by decide +kernel), ⟨by decide +kernel, by decide +kernel, by decide +kernel⟩⟩
theorem hy_X8_waits : mz_Y yX8_waits cX8_waits 2 (some .boolean) 1 := ⟨mz_in 745 (by decide +kernel) (by decide +kernel), mz_in 746 (by decide +kernel) (by decide +kernel), mz_in 67 (by decide +kernel) (by decide +kernel), mz_in 747 (by decide +kernel) (by decide +kernel), ⟨by decide +kernel, by decide +kernel, by decide +kernel⟩⟩
theorem hy_X9_bestHabit : mz_Y yX9_bestHabit cX9_bestHabit 7 (some .int) 2 := ⟨mz_in 1168 (by decide +kernel) (by decide +kernel), mz_in 1169 (by decide +kernel) (by decide +kernel), mz_in 59 (by decide +kernel) (by decide +kernel), mz_in 1170 (by decide +kernel) (by decide +kernel), ⟨by decide +kernel, by decide +kernel, by decide +kernel⟩⟩
theorem hy_X9_checkGuest : mz_Y yX9_checkGuest cX9_checkGuest 2 none 1 := ⟨mz_in 897 (by decide +kernel) (by decide +kernel), mz_in 26 (by decide +kernel) (by decide +kernel), mz_in 59 (by decide +kernel) (by decide +kernel), mz_in 898 (by decide +kernel) (by decide +kernel), ⟨by decide +kernel, by decide +kernel, by decide +kernel⟩⟩
theorem hs_X9_checkMinutes : mz_YS yX9_checkMinutes cX9_checkMinutes 2 none 2 := ⟨mz_in 1062 (by decide +kernel) (by decide +kernel), mz_in 59 (by decide +kernel) (by decide +kernel), mz_in 1063 (by decide +kernel) (by decide +kernel), ⟨by decide +kernel, by decide +kernel, by decide +kernel⟩⟩
theorem hy_X9_checkProp : mz_Y yX9_checkProp cX9_checkProp 2 none 1 := ⟨mz_in 686 (by decide +kernel) (by decide +kernel), mz_in 8 (by decide +kernel) (by decide +kernel), mz_in 59 (by decide +kernel) (by decide +kernel), mz_in 687 (by decide +kernel) (by decide +kernel), ⟨by decide +kernel, by decide +kernel, by decide +kernel⟩⟩
theorem hy_X9_checkRoom : mz_Y yX9_checkRoom cX9_checkRoom 2 none 1 := ⟨mz_in 557 (by decide +kernel) (by decide +kernel), mz_in 2 (by decide +kernel) (by decide +kernel), mz_in 59 (by decide +kernel) (by decide +kernel), mz_in 558 (by decide +kernel) (by decide +kernel), ⟨by decide +kernel, by decide +kernel, by decide +kernel⟩⟩
theorem hy_X9_checkScene : mz_Y yX9_checkScene cX9_checkScene 2 none 1 := ⟨mz_in 665 (by decide +kernel) (by decide +kernel), mz_in 6 (by decide +kernel) (by decide +kernel), mz_in 59 (by decide +kernel) (by decide +kernel), mz_in 666 (by decide +kernel) (by decide +kernel), ⟨by decide +kernel, by decide +kernel, by decide +kernel⟩⟩
theorem hs_X9_checkTime : mz_YS yX9_checkTime cX9_checkTime 2 none 2 := ⟨mz_in 1010 (by decide +kernel) (by decide +kernel), mz_in 59 (by decide +kernel) (by decide +kernel), mz_in 1011 (by decide +kernel) (by decide +kernel), ⟨by decide +kernel, by decide +kernel, by decide +kernel⟩⟩
theorem hy_X9_checkTrack : mz_Y yX9_checkTrack cX9_checkTrack 2 none 1 := ⟨mz_in 609 (by decide +kernel) (by decide +kernel), mz_in 4 (by decide +kernel) (by decide +kernel), mz_in 59 (by decide +kernel) (by decide +kernel), mz_in 610 (by decide +kernel) (by decide +kernel), ⟨by decide +kernel, by decide +kernel, by decide +kernel⟩⟩
theorem hs_X9_checkWhat : mz_YS yX9_checkWhat cX9_checkWhat 2 none 2 := ⟨mz_in 459 (by decide +kernel) (by decide +kernel), mz_in 59 (by decide +kernel) (by decide +kernel), mz_in 460 (by decide +kernel) (by decide +kernel), ⟨by decide +kernel, by decide +kernel, by decide +kernel⟩⟩
theorem hy_X9_countCutsOfTrial : mz_Y yX9_countCutsOfTrial cX9_countCutsOfTrial 1 (some .int) 0 := ⟨mz_in 911 (by decide +kernel) (by decide +kernel), mz_in 27 (by decide +kernel) (by decide +kernel), mz_in 59 (by decide +kernel) (by decide +kernel), mz_in 912 (by decide +kernel) (by decide +kernel), ⟨by decide +kernel, by decide +kernel, by decide +kernel⟩⟩
theorem hy_X9_digest : mz_Y yX9_digest cX9_digest 4 (some .long) 0 := ⟨mz_in 450 (by decide +kernel) (by decide +kernel), mz_in 451 (by decide +kernel) (by decide +kernel), mz_in 59 (by decide +kernel) (by decide +kernel), mz_in 452 (by decide +kernel) (by decide +kernel), ⟨by decide +kernel, by decide +kernel, by decide +kernel⟩⟩
theorem hy_X9_door : mz_Y yX9_door cX9_door 4 (some .int) 3 := ⟨mz_in 950 (by decide +kernel) (by decide +kernel), mz_in 951 (by decide +kernel) (by decide +kernel), mz_in 59 (by decide +kernel) (by decide +kernel), mz_in 952 (by decide +kernel) (by decide +kernel), ⟨by decide +kernel, by decide +kernel, by decide +kernel⟩⟩
theorem hy_X9_doubles : mz_Y yX9_doubles cX9_doubles 4 (some .int) 1 := ⟨mz_in 630 (by decide +kernel) (by decide +kernel), mz_in 631 (by decide +kernel) (by decide +kernel), mz_in 59 (by decide +kernel) (by decide +kernel), mz_in 632 (by decide +kernel) (by decide +kernel), ⟨by decide +kernel, by decide +kernel, by decide +kernel⟩⟩
theorem hs_X9_fold : mz_YS yX9_fold cX9_fold 4 (some .long) 2 := ⟨mz_in 544 (by decide +kernel) (by decide +kernel), mz_in 59 (by decide +kernel) (by decide +kernel), mz_in 545 (by decide +kernel) (by decide +kernel), ⟨by decide +kernel, by decide +kernel, by decide +kernel⟩⟩
theorem hy_X9_foldGuests : mz_Y yX9_foldGuests cX9_foldGuests 7 (some .long) 1 := ⟨mz_in 889 (by decide +kernel) (by decide +kernel), mz_in 25 (by decide +kernel) (by decide +kernel), mz_in 59 (by decide +kernel) (by decide +kernel), mz_in 890 (by decide +kernel) (by decide +kernel), ⟨by decide +kernel, by decide +kernel, by decide +kernel⟩⟩
theorem hy_X9_foldProps : mz_Y yX9_foldProps cX9_foldProps 7 (some .long) 1 := ⟨mz_in 678 (by decide +kernel) (by decide +kernel), mz_in 7 (by decide +kernel) (by decide +kernel), mz_in 59 (by decide +kernel) (by decide +kernel), mz_in 679 (by decide +kernel) (by decide +kernel), ⟨by decide +kernel, by decide +kernel, by decide +kernel⟩⟩
theorem hy_X9_foldRooms : mz_Y yX9_foldRooms cX9_foldRooms 7 (some .long) 1 := ⟨mz_in 549 (by decide +kernel) (by decide +kernel), mz_in 1 (by decide +kernel) (by decide +kernel), mz_in 59 (by decide +kernel) (by decide +kernel), mz_in 550 (by decide +kernel) (by decide +kernel), ⟨by decide +kernel, by decide +kernel, by decide +kernel⟩⟩
theorem hy_X9_foldScenes : mz_Y yX9_foldScenes cX9_foldScenes 7 (some .long) 1 := ⟨mz_in 657 (by decide +kernel) (by decide +kernel), mz_in 5 (by decide +kernel) (by decide +kernel), mz_in 59 (by decide +kernel) (by decide +kernel), mz_in 658 (by decide +kernel) (by decide +kernel), ⟨by decide +kernel, by decide +kernel, by decide +kernel⟩⟩
theorem hy_X9_foldTracks : mz_Y yX9_foldTracks cX9_foldTracks 7 (some .long) 1 := ⟨mz_in 601 (by decide +kernel) (by decide +kernel), mz_in 3 (by decide +kernel) (by decide +kernel), mz_in 59 (by decide +kernel) (by decide +kernel), mz_in 602 (by decide +kernel) (by decide +kernel), ⟨by decide +kernel, by decide +kernel, by decide +kernel⟩⟩
theorem hy_X9_guest : mz_Y yX9_guest cX9_guest 2 (some .int) 1 := ⟨mz_in 1032 (by decide +kernel) (by decide +kernel), mz_in 1033 (by decide +kernel) (by decide +kernel), mz_in 59 (by decide +kernel) (by decide +kernel), mz_in 1034 (by decide +kernel) (by decide +kernel), ⟨by decide +kernel, by decide +kernel, by decide +kernel⟩⟩
theorem hy_X9_habit : mz_Y yX9_habit cX9_habit 5 (some .int) 3 := ⟨mz_in 1049 (by decide +kernel) (by decide +kernel), mz_in 1050 (by decide +kernel) (by decide +kernel), mz_in 59 (by decide +kernel) (by decide +kernel), mz_in 1051 (by decide +kernel) (by decide +kernel), ⟨by decide +kernel, by decide +kernel, by decide +kernel⟩⟩
theorem hs_X9_habitBehind : mz_YS yX9_habitBehind cX9_habitBehind 1 (some .int) 1 := ⟨mz_in 1175 (by decide +kernel) (by decide +kernel), mz_in 59 (by decide +kernel) (by decide +kernel), mz_in 1176 (by decide +kernel) (by decide +kernel), ⟨by decide +kernel, by decide +kernel, by decide +kernel⟩⟩
-- X9_init: no words (84, None, 59, None)
theorem hy_X9_leave : mz_Y yX9_leave cX9_leave 3 (some .int) 1 := ⟨mz_in 1091 (by decide +kernel) (by decide +kernel), mz_in 1092 (by decide +kernel) (by decide +kernel), mz_in 59 (by decide +kernel) (by decide +kernel), mz_in 1093 (by decide +kernel) (by decide +kernel), ⟨by decide +kernel, by decide +kernel, by decide +kernel⟩⟩
theorem hy_X9_many : mz_Y yX9_many cX9_many 2 (some .int) 1 := ⟨mz_in 455 (by decide +kernel) (by decide +kernel), mz_in 456 (by decide +kernel) (by decide +kernel), mz_in 59 (by decide +kernel) (by decide +kernel), mz_in 457 (by decide +kernel) (by decide +kernel), ⟨by decide +kernel, by decide +kernel, by decide +kernel⟩⟩
theorem hy_X9_meanKnown : mz_Y yX9_meanKnown cX9_meanKnown 2 (some .double) 0 := ⟨mz_in 428 (by decide +kernel) (by decide +kernel), mz_in 429 (by decide +kernel) (by decide +kernel), mz_in 59 (by decide +kernel) (by decide +kernel), mz_in 430 (by decide +kernel) (by decide +kernel), ⟨by decide +kernel, by decide +kernel, by decide +kernel⟩⟩
theorem hy_X9_ofGuest : mz_Y yX9_ofGuest cX9_ofGuest 4 (some .int) 2 := ⟨mz_in 892 (by decide +kernel) (by decide +kernel), mz_in 893 (by decide +kernel) (by decide +kernel), mz_in 59 (by decide +kernel) (by decide +kernel), mz_in 894 (by decide +kernel) (by decide +kernel), ⟨by decide +kernel, by decide +kernel, by decide +kernel⟩⟩
theorem hy_X9_ofProp : mz_Y yX9_ofProp cX9_ofProp 3 (some .int) 2 := ⟨mz_in 681 (by decide +kernel) (by decide +kernel), mz_in 682 (by decide +kernel) (by decide +kernel), mz_in 59 (by decide +kernel) (by decide +kernel), mz_in 683 (by decide +kernel) (by decide +kernel), ⟨by decide +kernel, by decide +kernel, by decide +kernel⟩⟩
theorem hy_X9_ofRoom : mz_Y yX9_ofRoom cX9_ofRoom 3 (some .int) 2 := ⟨mz_in 552 (by decide +kernel) (by decide +kernel), mz_in 553 (by decide +kernel) (by decide +kernel), mz_in 59 (by decide +kernel) (by decide +kernel), mz_in 554 (by decide +kernel) (by decide +kernel), ⟨by decide +kernel, by decide +kernel, by decide +kernel⟩⟩
theorem hy_X9_ofScene : mz_Y yX9_ofScene cX9_ofScene 4 (some .int) 2 := ⟨mz_in 660 (by decide +kernel) (by decide +kernel), mz_in 661 (by decide +kernel) (by decide +kernel), mz_in 59 (by decide +kernel) (by decide +kernel), mz_in 662 (by decide +kernel) (by decide +kernel), ⟨by decide +kernel, by decide +kernel, by decide +kernel⟩⟩
theorem hy_X9_ofTrack : mz_Y yX9_ofTrack cX9_ofTrack 4 (some .int) 2 := ⟨mz_in 604 (by decide +kernel) (by decide +kernel), mz_in 605 (by decide +kernel) (by decide +kernel), mz_in 59 (by decide +kernel) (by decide +kernel), mz_in 606 (by decide +kernel) (by decide +kernel), ⟨by decide +kernel, by decide +kernel, by decide +kernel⟩⟩
theorem hy_X9_part : mz_Y yX9_part cX9_part 3 (some .int) 1 := ⟨mz_in 1116 (by decide +kernel) (by decide +kernel), mz_in 1117 (by decide +kernel) (by decide +kernel), mz_in 59 (by decide +kernel) (by decide +kernel), mz_in 1118 (by decide +kernel) (by decide +kernel), ⟨by decide +kernel, by decide +kernel, by decide +kernel⟩⟩
theorem hy_X9_pass : mz_Y yX9_pass cX9_pass 3 (some .int) 1 := ⟨mz_in 1058 (by decide +kernel) (by decide +kernel), mz_in 1059 (by decide +kernel) (by decide +kernel), mz_in 59 (by decide +kernel) (by decide +kernel), mz_in 1060 (by decide +kernel) (by decide +kernel), ⟨by decide +kernel, by decide +kernel, by decide +kernel⟩⟩
theorem hy_X9_play : mz_Y yX9_play cX9_play 3 (some .int) 2 := ⟨mz_in 1099 (by decide +kernel) (by decide +kernel), mz_in 1100 (by decide +kernel) (by decide +kernel), mz_in 59 (by decide +kernel) (by decide +kernel), mz_in 1101 (by decide +kernel) (by decide +kernel), ⟨by decide +kernel, by decide +kernel, by decide +kernel⟩⟩
theorem hy_X9_prop : mz_Y yX9_prop cX9_prop 3 (some .int) 1 := ⟨mz_in 993 (by decide +kernel) (by decide +kernel), mz_in 994 (by decide +kernel) (by decide +kernel), mz_in 59 (by decide +kernel) (by decide +kernel), mz_in 995 (by decide +kernel) (by decide +kernel), ⟨by decide +kernel, by decide +kernel, by decide +kernel⟩⟩
theorem hy_X9_room : mz_Y yX9_room cX9_room 2 (some .int) 1 := ⟨mz_in 919 (by decide +kernel) (by decide +kernel), mz_in 920 (by decide +kernel) (by decide +kernel), mz_in 59 (by decide +kernel) (by decide +kernel), mz_in 921 (by decide +kernel) (by decide +kernel), ⟨by decide +kernel, by decide +kernel, by decide +kernel⟩⟩
theorem hy_X9_scene : mz_Y yX9_scene cX9_scene 6 (some .int) 5 := ⟨mz_in 1006 (by decide +kernel) (by decide +kernel), mz_in 1007 (by decide +kernel) (by decide +kernel), mz_in 59 (by decide +kernel) (by decide +kernel), mz_in 1008 (by decide +kernel) (by decide +kernel), ⟨by decide +kernel, by decide +kernel, by decide +kernel⟩⟩
theorem hy_X9_seen : mz_Y yX9_seen cX9_seen 3 (some .int) 2 := ⟨mz_in 906 (by decide +kernel) (by decide +kernel), mz_in 907 (by decide +kernel) (by decide +kernel), mz_in 59 (by decide +kernel) (by decide +kernel), mz_in 908 (by decide +kernel) (by decide +kernel), ⟨by decide +kernel, by decide +kernel, by decide +kernel⟩⟩
theorem hs_X9_standsForHabit : mz_YS yX9_standsForHabit cX9_standsForHabit 1 (some .boolean) 1 := ⟨mz_in 1172 (by decide +kernel) (by decide +kernel), mz_in 59 (by decide +kernel) (by decide +kernel), mz_in 1173 (by decide +kernel) (by decide +kernel), ⟨by decide +kernel, by decide +kernel, by decide +kernel⟩⟩
theorem hy_X9_take : mz_Y yX9_take cX9_take 3 (some .int) 2 := ⟨mz_in 1070 (by decide +kernel) (by decide +kernel), mz_in 1071 (by decide +kernel) (by decide +kernel), mz_in 59 (by decide +kernel) (by decide +kernel), mz_in 1072 (by decide +kernel) (by decide +kernel), ⟨by decide +kernel, by decide +kernel, by decide +kernel⟩⟩
theorem hy_X9_track : mz_Y yX9_track cX9_track 3 (some .int) 1 := ⟨mz_in 976 (by decide +kernel) (by decide +kernel), mz_in 977 (by decide +kernel) (by decide +kernel), mz_in 59 (by decide +kernel) (by decide +kernel), mz_in 978 (by decide +kernel) (by decide +kernel), ⟨by decide +kernel, by decide +kernel, by decide +kernel⟩⟩
theorem hy_X9_way : mz_Y yX9_way cX9_way 4 (some .int) 3 := ⟨mz_in 591 (by decide +kernel) (by decide +kernel), mz_in 592 (by decide +kernel) (by decide +kernel), mz_in 59 (by decide +kernel) (by decide +kernel), mz_in 593 (by decide +kernel) (by decide +kernel), ⟨by decide +kernel, by decide +kernel, by decide +kernel⟩⟩
theorem hy_X9_wouldCut : mz_Y yX9_wouldCut cX9_wouldCut 2 (some .int) 1 := ⟨mz_in 1181 (by decide +kernel) (by decide +kernel), mz_in 1182 (by decide +kernel) (by decide +kernel), mz_in 59 (by decide +kernel) (by decide +kernel), mz_in 1183 (by decide +kernel) (by decide +kernel), ⟨by decide +kernel, by decide +kernel, by decide +kernel⟩⟩
theorem hy_X9_wouldKnow : mz_Y yX9_wouldKnow cX9_wouldKnow 3 (some .int) 2 := ⟨mz_in 1161 (by decide +kernel) (by decide +kernel), mz_in 1162 (by decide +kernel) (by decide +kernel), mz_in 59 (by decide +kernel) (by decide +kernel), mz_in 1163 (by decide +kernel) (by decide +kernel), ⟨by decide +kernel, by decide +kernel, by decide +kernel⟩⟩
theorem wl_X9_9 : Cond.methodLink RX9 9 yX4_init ∈ mz_ws := mz_in 91 (by decide +kernel) (by decide +kernel)
theorem wl_X4_11 : Cond.methodLink RX4 11 yX6_init ∈ mz_ws := mz_in 97 (by decide +kernel) (by decide +kernel)
theorem wl_X4_25 : Cond.methodLink RX4 25 yX3_init ∈ mz_ws := mz_in 108 (by decide +kernel) (by decide +kernel)
theorem wl_X3_17 : Cond.methodLink RX3 17 yX6_init ∈ mz_ws := mz_in 113 (by decide +kernel) (by decide +kernel)
theorem wl_X4_38 : Cond.methodLink RX4 38 yX3_fill ∈ mz_ws := mz_in 121 (by decide +kernel) (by decide +kernel)
theorem wl_X3_32 : Cond.methodLink RX3 32 yX6_fill ∈ mz_ws := mz_in 125 (by decide +kernel) (by decide +kernel)
theorem wl_X6_15 : Cond.methodLink RX6 15 yJ7_fill_53178 ∈ mz_ws := mz_in 129 (by decide +kernel) (by decide +kernel)
theorem wn_X9_18 : Cond.methodLinkNest RX9 18 yX7_init "ManorLoops" ∈ mz_wn := mz_inn 168 (by decide +kernel) (by decide +kernel)
theorem wl_X7_11 : Cond.methodLink RX7 11 yX6_init ∈ mz_ws := mz_in 173 (by decide +kernel) (by decide +kernel)
theorem wl_X9_25 : Cond.methodLink RX9 25 yX2_init ∈ mz_ws := mz_in 232 (by decide +kernel) (by decide +kernel)
theorem wl_X2_11 : Cond.methodLink RX2 11 yX6_init ∈ mz_ws := mz_in 237 (by decide +kernel) (by decide +kernel)
theorem wl_X2_30 : Cond.methodLink RX2 30 yX1_init ∈ mz_ws := mz_in 240 (by decide +kernel) (by decide +kernel)
theorem wl_X1_11 : Cond.methodLink RX1 11 yX6_init ∈ mz_ws := mz_in 245 (by decide +kernel) (by decide +kernel)
theorem wl_X2_39 : Cond.methodLink RX2 39 yX8_init ∈ mz_ws := mz_in 266 (by decide +kernel) (by decide +kernel)
theorem wl_X8_11 : Cond.methodLink RX8 11 yX6_init ∈ mz_ws := mz_in 271 (by decide +kernel) (by decide +kernel)
theorem wl_X2_46 : Cond.methodLink RX2 46 yX5_init ∈ mz_ws := mz_in 302 (by decide +kernel) (by decide +kernel)
theorem wl_X5_11 : Cond.methodLink RX5 11 yX6_init ∈ mz_ws := mz_in 307 (by decide +kernel) (by decide +kernel)
theorem wn_X2_53 : Cond.methodLinkNest RX2 53 yX0_init "ManorLoops" ∈ mz_wn := mz_inn 332 (by decide +kernel) (by decide +kernel)
theorem wl_X0_11 : Cond.methodLink RX0 11 yX6_init ∈ mz_ws := mz_in 337 (by decide +kernel) (by decide +kernel)
theorem wl_X0_37 : Cond.methodLink RX0 37 yX3_init ∈ mz_ws := mz_in 339 (by decide +kernel) (by decide +kernel)
theorem wl_X9_354 : Cond.methodLink RX9 354 yX0_countKnown ∈ mz_ws := mz_in 431 (by decide +kernel) (by decide +kernel)
theorem wl_X0_86 : Cond.methodLink RX0 86 yX0_countKnownBy ∈ mz_ws := mz_in 435 (by decide +kernel) (by decide +kernel)
theorem wl_X0_68 : Cond.methodLink RX0 68 yX6_get ∈ mz_ws := mz_in 439 (by decide +kernel) (by decide +kernel)
theorem wl_X0_77 : Cond.methodLink RX0 77 yJ6_bitCount_0f7a4 ∈ mz_ws := mz_in 443 (by decide +kernel) (by decide +kernel)
theorem wl_X9_375 : Cond.methodLink RX9 375 yX9_many ∈ mz_ws := mz_in 454 (by decide +kernel) (by decide +kernel)
theorem wl_X9_252 : Cond.methodLink RX9 252 yX9_checkWhat ∈ mz_ws := mz_in 458 (by decide +kernel) (by decide +kernel)
theorem wl_X9_345 : Cond.methodLink RX9 345 yX8_countRunning ∈ mz_ws := mz_in 529 (by decide +kernel) (by decide +kernel)
theorem wl_X8_44 : Cond.methodLink RX8 44 yX6_get ∈ mz_ws := mz_in 533 (by decide +kernel) (by decide +kernel)
theorem wl_X9_196 : Cond.methodLink RX9 196 yX6_sum ∈ mz_ws := mz_in 534 (by decide +kernel) (by decide +kernel)
theorem wl_X9_351 : Cond.methodLink RX9 351 yX0_knownByAny ∈ mz_ws := mz_in 538 (by decide +kernel) (by decide +kernel)
theorem wl_X9_215 : Cond.methodLink RX9 215 yJ6_bitCount_0f7a4 ∈ mz_ws := mz_in 542 (by decide +kernel) (by decide +kernel)
theorem wl_X9_378 : Cond.methodLink RX9 378 yX9_fold ∈ mz_ws := mz_in 543 (by decide +kernel) (by decide +kernel)
theorem wl_X9_382 : Cond.methodLink RX9 382 yX9_foldRooms ∈ mz_ws := mz_in 547 (by decide +kernel) (by decide +kernel)
theorem wl_X9_400 : Cond.methodLink RX9 400 yX9_ofRoom ∈ mz_ws := mz_in 551 (by decide +kernel) (by decide +kernel)
theorem wl_X9_55 : Cond.methodLink RX9 55 yX9_checkRoom ∈ mz_ws := mz_in 555 (by decide +kernel) (by decide +kernel)
theorem wl_X9_174 : Cond.methodLink RX9 174 yX6_get ∈ mz_ws := mz_in 575 (by decide +kernel) (by decide +kernel)
theorem wl_X9_261 : Cond.methodLink RX9 261 yX1_setIn ∈ mz_ws := mz_in 576 (by decide +kernel) (by decide +kernel)
theorem wl_X1_38 : Cond.methodLink RX1 38 yX6_get ∈ mz_ws := mz_in 580 (by decide +kernel) (by decide +kernel)
theorem wl_X9_264 : Cond.methodLink RX9 264 yX8_runningIn ∈ mz_ws := mz_in 581 (by decide +kernel) (by decide +kernel)
theorem wl_X9_267 : Cond.methodLink RX9 267 yX5_lyingIn ∈ mz_ws := mz_in 585 (by decide +kernel) (by decide +kernel)
theorem wl_X5_44 : Cond.methodLink RX5 44 yX6_get ∈ mz_ws := mz_in 589 (by decide +kernel) (by decide +kernel)
theorem wl_X9_403 : Cond.methodLink RX9 403 yX9_way ∈ mz_ws := mz_in 590 (by decide +kernel) (by decide +kernel)
theorem wl_X9_68 : Cond.methodLink RX9 68 yX3_get ∈ mz_ws := mz_in 594 (by decide +kernel) (by decide +kernel)
theorem wl_X3_24 : Cond.methodLink RX3 24 yX6_get ∈ mz_ws := mz_in 598 (by decide +kernel) (by decide +kernel)
theorem wl_X9_386 : Cond.methodLink RX9 386 yX9_foldTracks ∈ mz_ws := mz_in 599 (by decide +kernel) (by decide +kernel)
theorem wl_X9_406 : Cond.methodLink RX9 406 yX9_ofTrack ∈ mz_ws := mz_in 603 (by decide +kernel) (by decide +kernel)
theorem wl_X9_165 : Cond.methodLink RX9 165 yX9_checkTrack ∈ mz_ws := mz_in 607 (by decide +kernel) (by decide +kernel)
theorem wl_X9_277 : Cond.methodLink RX9 277 yX8_runningWith ∈ mz_ws := mz_in 612 (by decide +kernel) (by decide +kernel)
theorem wl_X8_76 : Cond.methodLink RX8 76 yX7_has ∈ mz_ws := mz_in 616 (by decide +kernel) (by decide +kernel)
theorem wl_X7_52 : Cond.methodLink RX7 52 yX6_get ∈ mz_ws := mz_in 620 (by decide +kernel) (by decide +kernel)
theorem wl_X9_280 : Cond.methodLink RX9 280 yX1_rolesOf ∈ mz_ws := mz_in 621 (by decide +kernel) (by decide +kernel)
theorem wl_X9_283 : Cond.methodLink RX9 283 yX8_nextSceneOf ∈ mz_ws := mz_in 625 (by decide +kernel) (by decide +kernel)
theorem wl_X9_409 : Cond.methodLink RX9 409 yX9_doubles ∈ mz_ws := mz_in 629 (by decide +kernel) (by decide +kernel)
theorem wl_X9_230 : Cond.methodLink RX9 230 yX2_canDouble ∈ mz_ws := mz_in 633 (by decide +kernel) (by decide +kernel)
theorem wl_X2_105 : Cond.methodLink RX2 105 yX8_busyTracks ∈ mz_ws := mz_in 637 (by decide +kernel) (by decide +kernel)
theorem wl_X2_282 : Cond.methodLink RX2 282 yX1_isSingle ∈ mz_ws := mz_in 641 (by decide +kernel) (by decide +kernel)
theorem wl_X1_48 : Cond.methodLink RX1 48 yX1_rolesOf ∈ mz_ws := mz_in 645 (by decide +kernel) (by decide +kernel)
theorem wl_X2_285 : Cond.methodLink RX2 285 yX7_overlap ∈ mz_ws := mz_in 646 (by decide +kernel) (by decide +kernel)
theorem wl_X7_56 : Cond.methodLink RX7 56 yX7_has ∈ mz_ws := mz_in 650 (by decide +kernel) (by decide +kernel)
theorem wl_X7_60 : Cond.methodLink RX7 60 yX7_overlapsSceneOf ∈ mz_ws := mz_in 651 (by decide +kernel) (by decide +kernel)
theorem wl_X9_389 : Cond.methodLink RX9 389 yX9_foldScenes ∈ mz_ws := mz_in 655 (by decide +kernel) (by decide +kernel)
theorem wl_X9_412 : Cond.methodLink RX9 412 yX9_ofScene ∈ mz_ws := mz_in 659 (by decide +kernel) (by decide +kernel)
theorem wl_X9_289 : Cond.methodLink RX9 289 yX9_checkScene ∈ mz_ws := mz_in 663 (by decide +kernel) (by decide +kernel)
theorem wl_X9_317 : Cond.methodLink RX9 317 yX0_countKnowing ∈ mz_ws := mz_in 668 (by decide +kernel) (by decide +kernel)
theorem wl_X0_82 : Cond.methodLink RX0 82 yX0_knows ∈ mz_ws := mz_in 672 (by decide +kernel) (by decide +kernel)
theorem wl_X9_392 : Cond.methodLink RX9 392 yX9_foldProps ∈ mz_ws := mz_in 676 (by decide +kernel) (by decide +kernel)
theorem wl_X9_415 : Cond.methodLink RX9 415 yX9_ofProp ∈ mz_ws := mz_in 680 (by decide +kernel) (by decide +kernel)
theorem wl_X9_114 : Cond.methodLink RX9 114 yX9_checkProp ∈ mz_ws := mz_in 684 (by decide +kernel) (by decide +kernel)
theorem wl_X9_333 : Cond.methodLink RX9 333 yX2_roomOfProp ∈ mz_ws := mz_in 689 (by decide +kernel) (by decide +kernel)
theorem wl_X2_121 : Cond.methodLink RX2 121 yX6_get ∈ mz_ws := mz_in 693 (by decide +kernel) (by decide +kernel)
theorem wl_X9_357 : Cond.methodLink RX9 357 yX2_copyFrom ∈ mz_ws := mz_in 694 (by decide +kernel) (by decide +kernel)
theorem wl_X2_62 : Cond.methodLink RX2 62 yX1_copyFrom ∈ mz_ws := mz_in 698 (by decide +kernel) (by decide +kernel)
theorem wl_X1_30 : Cond.methodLink RX1 30 yX6_copyFrom ∈ mz_ws := mz_in 702 (by decide +kernel) (by decide +kernel)
theorem wl_X6_21 : Cond.methodLink RX6 21 yJ9_min_7cf53 ∈ mz_ws := mz_in 706 (by decide +kernel) (by decide +kernel)
theorem wl_X2_66 : Cond.methodLink RX2 66 yX8_copyFrom ∈ mz_ws := mz_in 712 (by decide +kernel) (by decide +kernel)
theorem wl_X8_36 : Cond.methodLink RX8 36 yX6_copyFrom ∈ mz_ws := mz_in 716 (by decide +kernel) (by decide +kernel)
theorem wl_X2_69 : Cond.methodLink RX2 69 yX5_copyFrom ∈ mz_ws := mz_in 717 (by decide +kernel) (by decide +kernel)
theorem wl_X5_33 : Cond.methodLink RX5 33 yX6_copyFrom ∈ mz_ws := mz_in 721 (by decide +kernel) (by decide +kernel)
theorem wl_X2_72 : Cond.methodLink RX2 72 yX0_copyFrom ∈ mz_ws := mz_in 722 (by decide +kernel) (by decide +kernel)
theorem wl_X0_51 : Cond.methodLink RX0 51 yX6_copyFrom ∈ mz_ws := mz_in 726 (by decide +kernel) (by decide +kernel)
theorem wl_X0_55 : Cond.methodLink RX0 55 yX3_copyFrom ∈ mz_ws := mz_in 727 (by decide +kernel) (by decide +kernel)
theorem wl_X3_35 : Cond.methodLink RX3 35 yX6_copyFrom ∈ mz_ws := mz_in 731 (by decide +kernel) (by decide +kernel)
theorem wl_X9_200 : Cond.methodLink RX9 200 yX2_run ∈ mz_ws := mz_in 732 (by decide +kernel) (by decide +kernel)
theorem wl_X2_75 : Cond.methodLink RX2 75 yX2_beginLoop ∈ mz_ws := mz_in 736 (by decide +kernel) (by decide +kernel)
theorem wl_X2_90 : Cond.methodLink RX2 90 yX8_restart ∈ mz_ws := mz_in 740 (by decide +kernel) (by decide +kernel)
theorem wl_X8_53 : Cond.methodLink RX8 53 yX8_waits ∈ mz_ws := mz_in 744 (by decide +kernel) (by decide +kernel)
theorem wl_X8_57 : Cond.methodLink RX8 57 yX8_runs ∈ mz_ws := mz_in 748 (by decide +kernel) (by decide +kernel)
theorem wl_X8_60 : Cond.methodLink RX8 60 yX8_cut ∈ mz_ws := mz_in 752 (by decide +kernel) (by decide +kernel)
theorem wl_X8_63 : Cond.methodLink RX8 63 yX6_set ∈ mz_ws := mz_in 756 (by decide +kernel) (by decide +kernel)
theorem wl_X8_67 : Cond.methodLink RX8 67 yX6_add ∈ mz_ws := mz_in 760 (by decide +kernel) (by decide +kernel)
theorem wl_X2_93 : Cond.methodLink RX2 93 yX5_goHome ∈ mz_ws := mz_in 764 (by decide +kernel) (by decide +kernel)
theorem wl_X5_41 : Cond.methodLink RX5 41 yX5_lay ∈ mz_ws := mz_in 768 (by decide +kernel) (by decide +kernel)
theorem wl_X5_37 : Cond.methodLink RX5 37 yX6_set ∈ mz_ws := mz_in 772 (by decide +kernel) (by decide +kernel)
theorem wl_X2_100 : Cond.methodLink RX2 100 yX3_fill ∈ mz_ws := mz_in 773 (by decide +kernel) (by decide +kernel)
theorem wl_X2_78 : Cond.methodLink RX2 78 yX2_moveTracks ∈ mz_ws := mz_in 774 (by decide +kernel) (by decide +kernel)
theorem wl_X2_114 : Cond.methodLink RX2 114 yX1_rolesOf ∈ mz_ws := mz_in 778 (by decide +kernel) (by decide +kernel)
theorem wl_X2_124 : Cond.methodLink RX2 124 yX8_nextSceneOf ∈ mz_ws := mz_in 779 (by decide +kernel) (by decide +kernel)
theorem wl_X2_133 : Cond.methodLink RX2 133 yX2_moveTrack ∈ mz_ws := mz_in 780 (by decide +kernel) (by decide +kernel)
theorem wl_X2_143 : Cond.methodLink RX2 143 yX3_get ∈ mz_ws := mz_in 784 (by decide +kernel) (by decide +kernel)
theorem wl_X2_146 : Cond.methodLink RX2 146 yX1_walk ∈ mz_ws := mz_in 785 (by decide +kernel) (by decide +kernel)
theorem wl_X1_51 : Cond.methodLink RX1 51 yX6_add ∈ mz_ws := mz_in 789 (by decide +kernel) (by decide +kernel)
theorem wl_X1_34 : Cond.methodLink RX1 34 yX6_set ∈ mz_ws := mz_in 790 (by decide +kernel) (by decide +kernel)
theorem wl_X2_81 : Cond.methodLink RX2 81 yX2_performScenes ∈ mz_ws := mz_in 791 (by decide +kernel) (by decide +kernel)
theorem wl_X2_152 : Cond.methodLink RX2 152 yX8_runs ∈ mz_ws := mz_in 795 (by decide +kernel) (by decide +kernel)
theorem wl_X2_156 : Cond.methodLink RX2 156 yX2_continueScene ∈ mz_ws := mz_in 796 (by decide +kernel) (by decide +kernel)
theorem wl_X2_174 : Cond.methodLink RX2 174 yX8_goOn ∈ mz_ws := mz_in 800 (by decide +kernel) (by decide +kernel)
theorem wl_X2_183 : Cond.methodLink RX2 183 yX2_greatestTrack ∈ mz_ws := mz_in 804 (by decide +kernel) (by decide +kernel)
theorem wl_X2_186 : Cond.methodLink RX2 186 yX5_giveToTrack ∈ mz_ws := mz_in 808 (by decide +kernel) (by decide +kernel)
theorem wl_X2_159 : Cond.methodLink RX2 159 yX8_waits ∈ mz_ws := mz_in 812 (by decide +kernel) (by decide +kernel)
theorem wl_X2_165 : Cond.methodLink RX2 165 yX2_canBegin ∈ mz_ws := mz_in 813 (by decide +kernel) (by decide +kernel)
theorem wl_X2_189 : Cond.methodLink RX2 189 yX1_setIn ∈ mz_ws := mz_in 817 (by decide +kernel) (by decide +kernel)
theorem wl_X2_192 : Cond.methodLink RX2 192 yX1_withDoubles ∈ mz_ws := mz_in 818 (by decide +kernel) (by decide +kernel)
theorem wl_X2_195 : Cond.methodLink RX2 195 yX2_hasProp ∈ mz_ws := mz_in 822 (by decide +kernel) (by decide +kernel)
theorem wl_X2_202 : Cond.methodLink RX2 202 yX7_has ∈ mz_ws := mz_in 826 (by decide +kernel) (by decide +kernel)
theorem wl_X2_168 : Cond.methodLink RX2 168 yX8_begin ∈ mz_ws := mz_in 827 (by decide +kernel) (by decide +kernel)
theorem wl_X2_171 : Cond.methodLink RX2 171 yX8_delay ∈ mz_ws := mz_in 831 (by decide +kernel) (by decide +kernel)
theorem wl_X2_84 : Cond.methodLink RX2 84 yX2_moveGuests ∈ mz_ws := mz_in 835 (by decide +kernel) (by decide +kernel)
theorem wl_X2_206 : Cond.methodLink RX2 206 yX6_fill ∈ mz_ws := mz_in 839 (by decide +kernel) (by decide +kernel)
theorem wl_X2_211 : Cond.methodLink RX2 211 yX2_nextRoomOf ∈ mz_ws := mz_in 840 (by decide +kernel) (by decide +kernel)
theorem wl_X2_246 : Cond.methodLink RX2 246 yX2_emptierRoom ∈ mz_ws := mz_in 844 (by decide +kernel) (by decide +kernel)
theorem wl_X2_252 : Cond.methodLink RX2 252 yX8_runningIn ∈ mz_ws := mz_in 848 (by decide +kernel) (by decide +kernel)
theorem wl_X2_249 : Cond.methodLink RX2 249 yX2_nextRoomToScene ∈ mz_ws := mz_in 849 (by decide +kernel) (by decide +kernel)
theorem wl_X2_261 : Cond.methodLink RX2 261 yX0_knows ∈ mz_ws := mz_in 853 (by decide +kernel) (by decide +kernel)
theorem wl_X2_217 : Cond.methodLink RX2 217 yX2_moveGuest ∈ mz_ws := mz_in 854 (by decide +kernel) (by decide +kernel)
theorem wl_X2_224 : Cond.methodLink RX2 224 yX2_isFull ∈ mz_ws := mz_in 858 (by decide +kernel) (by decide +kernel)
theorem wl_X2_227 : Cond.methodLink RX2 227 yX6_add ∈ mz_ws := mz_in 862 (by decide +kernel) (by decide +kernel)
theorem wl_X2_230 : Cond.methodLink RX2 230 yX0_walk ∈ mz_ws := mz_in 863 (by decide +kernel) (by decide +kernel)
theorem wl_X0_61 : Cond.methodLink RX0 61 yX6_add ∈ mz_ws := mz_in 867 (by decide +kernel) (by decide +kernel)
theorem wl_X0_58 : Cond.methodLink RX0 58 yX6_set ∈ mz_ws := mz_in 868 (by decide +kernel) (by decide +kernel)
theorem wl_X2_87 : Cond.methodLink RX2 87 yX2_showScenes ∈ mz_ws := mz_in 869 (by decide +kernel) (by decide +kernel)
theorem wl_X2_264 : Cond.methodLink RX2 264 yX2_showScene ∈ mz_ws := mz_in 873 (by decide +kernel) (by decide +kernel)
theorem wl_X2_270 : Cond.methodLink RX2 270 yX0_see ∈ mz_ws := mz_in 877 (by decide +kernel) (by decide +kernel)
theorem wl_X0_72 : Cond.methodLink RX0 72 yX3_get ∈ mz_ws := mz_in 881 (by decide +kernel) (by decide +kernel)
theorem wl_X0_75 : Cond.methodLink RX0 75 yX3_set ∈ mz_ws := mz_in 882 (by decide +kernel) (by decide +kernel)
theorem wl_X3_28 : Cond.methodLink RX3 28 yX6_set ∈ mz_ws := mz_in 886 (by decide +kernel) (by decide +kernel)
theorem wl_X9_395 : Cond.methodLink RX9 395 yX9_foldGuests ∈ mz_ws := mz_in 887 (by decide +kernel) (by decide +kernel)
theorem wl_X9_418 : Cond.methodLink RX9 418 yX9_ofGuest ∈ mz_ws := mz_in 891 (by decide +kernel) (by decide +kernel)
theorem wl_X9_162 : Cond.methodLink RX9 162 yX9_checkGuest ∈ mz_ws := mz_in 895 (by decide +kernel) (by decide +kernel)
theorem wl_X9_220 : Cond.methodLink RX9 220 yX5_heldByGuest ∈ mz_ws := mz_in 900 (by decide +kernel) (by decide +kernel)
theorem wl_X9_361 : Cond.methodLink RX9 361 yX0_countKnownBy ∈ mz_ws := mz_in 904 (by decide +kernel) (by decide +kernel)
theorem wl_X9_421 : Cond.methodLink RX9 421 yX9_seen ∈ mz_ws := mz_in 905 (by decide +kernel) (by decide +kernel)
theorem wl_X9_370 : Cond.methodLink RX9 370 yX9_countCutsOfTrial ∈ mz_ws := mz_in 909 (by decide +kernel) (by decide +kernel)
theorem wl_X9_51 : Cond.methodLink RX9 51 yX4_addRoom ∈ mz_ws := mz_in 939 (by decide +kernel) (by decide +kernel)
theorem wl_X4_45 : Cond.methodLink RX4 45 yX6_set ∈ mz_ws := mz_in 943 (by decide +kernel) (by decide +kernel)
theorem wl_X4_48 : Cond.methodLink RX4 48 yX3_set ∈ mz_ws := mz_in 944 (by decide +kernel) (by decide +kernel)
theorem wl_X9_76 : Cond.methodLink RX9 76 yX4_addDoor ∈ mz_ws := mz_in 955 (by decide +kernel) (by decide +kernel)
theorem wl_X4_54 : Cond.methodLink RX4 54 yX4_shortenWays ∈ mz_ws := mz_in 959 (by decide +kernel) (by decide +kernel)
theorem wl_X4_61 : Cond.methodLink RX4 61 yX3_get ∈ mz_ws := mz_in 963 (by decide +kernel) (by decide +kernel)
theorem wl_X4_64 : Cond.methodLink RX4 64 yX4_shortenWay ∈ mz_ws := mz_in 964 (by decide +kernel) (by decide +kernel)
theorem wl_X4_57 : Cond.methodLink RX4 57 yX4_findNext ∈ mz_ws := mz_in 968 (by decide +kernel) (by decide +kernel)
theorem wl_X9_85 : Cond.methodLink RX9 85 yX7_addTrack ∈ mz_ws := mz_in 980 (by decide +kernel) (by decide +kernel)
theorem wl_X7_42 : Cond.methodLink RX7 42 yX6_set ∈ mz_ws := mz_in 984 (by decide +kernel) (by decide +kernel)
theorem wl_X9_92 : Cond.methodLink RX9 92 yX1_enter ∈ mz_ws := mz_in 985 (by decide +kernel) (by decide +kernel)
theorem wl_X9_103 : Cond.methodLink RX9 103 yX7_addProp ∈ mz_ws := mz_in 997 (by decide +kernel) (by decide +kernel)
theorem wl_X9_109 : Cond.methodLink RX9 109 yX5_lay ∈ mz_ws := mz_in 1001 (by decide +kernel) (by decide +kernel)
theorem wl_X9_117 : Cond.methodLink RX9 117 yX9_checkTime ∈ mz_ws := mz_in 1009 (by decide +kernel) (by decide +kernel)
theorem wl_X9_120 : Cond.methodLink RX9 120 yX7_areTracks ∈ mz_ws := mz_in 1013 (by decide +kernel) (by decide +kernel)
theorem wl_X9_132 : Cond.methodLink RX9 132 yX7_overlapsSceneOf ∈ mz_ws := mz_in 1018 (by decide +kernel) (by decide +kernel)
theorem wl_X9_136 : Cond.methodLink RX9 136 yX1_anyIsPlayed ∈ mz_ws := mz_in 1019 (by decide +kernel) (by decide +kernel)
theorem wl_X9_142 : Cond.methodLink RX9 142 yX7_addScene ∈ mz_ws := mz_in 1024 (by decide +kernel) (by decide +kernel)
theorem wl_X9_155 : Cond.methodLink RX9 155 yX2_isFull ∈ mz_ws := mz_in 1035 (by decide +kernel) (by decide +kernel)
theorem wl_X9_160 : Cond.methodLink RX9 160 yX0_enter ∈ mz_ws := mz_in 1037 (by decide +kernel) (by decide +kernel)
theorem wl_X0_64 : Cond.methodLink RX0 64 yX0_changeHabit ∈ mz_ws := mz_in 1041 (by decide +kernel) (by decide +kernel)
theorem wl_X9_178 : Cond.methodLink RX9 178 yX0_changeHabit ∈ mz_ws := mz_in 1053 (by decide +kernel) (by decide +kernel)
theorem wl_X9_182 : Cond.methodLink RX9 182 yX9_checkMinutes ∈ mz_ws := mz_in 1061 (by decide +kernel) (by decide +kernel)
theorem wl_X9_203 : Cond.methodLink RX9 203 yX2_canTake ∈ mz_ws := mz_in 1073 (by decide +kernel) (by decide +kernel)
theorem wl_X2_276 : Cond.methodLink RX2 276 yX5_heldByGuest ∈ mz_ws := mz_in 1077 (by decide +kernel) (by decide +kernel)
theorem wl_X2_279 : Cond.methodLink RX2 279 yX2_isInUse ∈ mz_ws := mz_in 1078 (by decide +kernel) (by decide +kernel)
theorem wl_X9_209 : Cond.methodLink RX9 209 yX5_giveToGuest ∈ mz_ws := mz_in 1083 (by decide +kernel) (by decide +kernel)
theorem wl_X9_235 : Cond.methodLink RX9 235 yX1_startDouble ∈ mz_ws := mz_in 1104 (by decide +kernel) (by decide +kernel)
theorem wl_X9_238 : Cond.methodLink RX9 238 yX7_countScenesOf ∈ mz_ws := mz_in 1108 (by decide +kernel) (by decide +kernel)
theorem wl_X9_244 : Cond.methodLink RX9 244 yX8_busyTracks ∈ mz_ws := mz_in 1119 (by decide +kernel) (by decide +kernel)
theorem wl_X9_249 : Cond.methodLink RX9 249 yX1_endDouble ∈ mz_ws := mz_in 1121 (by decide +kernel) (by decide +kernel)
theorem wl_X9_364 : Cond.methodLink RX9 364 yX9_standsForHabit ∈ mz_ws := mz_in 1171 (by decide +kernel) (by decide +kernel)
theorem wl_X9_367 : Cond.methodLink RX9 367 yX9_habitBehind ∈ mz_ws := mz_in 1174 (by decide +kernel) (by decide +kernel)
theorem mz_FL_of {own : String} {cl : List vw_C} {fl : List (Nat × Nat × Nat)} (h : ∀ q ∈ fl, ∃ (C : String) (T : u_T) (N : Nat), cl[q.2.1]? = some (C, T, N) ∧ q.2.2 < N ∧ (∀ w ∈ u_ws C T N, w ∈ mz_ws) ∧
  (Cond.fieldLink own q.1 (T q.2.2).1 (T q.2.2).2.1 (T q.2.2).2.2.1 ∈ mz_ws ∨ ∃ host : String, Cond.fieldLinkNest own q.1 (T q.2.2).1 (T q.2.2).2.1 (T q.2.2).2.2.1 host ∈ mz_wn)) : mz_FL own cl fl := by
  intro idx ci j hl
  have hm : (idx, (ci, j)) ∈ fl := by
    induction fl with
    | nil => cases hl
    | cons q t ih =>
      obtain ⟨a, b⟩ := q
      rw [List.lookup_cons] at hl
      by_cases e : idx = a
      · subst e
        simp at hl
        subst hl
        exact List.mem_cons_self
      · have : (idx == a) = false := by simpa using e
        rw [this] at hl
        exact List.mem_cons_of_mem _ (ih (fun q hq => h q (List.mem_cons_of_mem _ hq)) hl)
  exact h _ hm
def flX0 : List (Nat × Nat × Nat) := [(47, 0, 0), (14, 0, 1), (20, 0, 2), (23, 0, 3), (26, 0, 4), (29, 0, 5), (32, 0, 6), (40, 0, 7), (44, 0, 8)]
theorem FLX0 : mz_FL RX0 vwCl flX0 := mz_FL_of (List.forall_mem_cons.mpr ⟨⟨RX0, TX0, 9, rfl, by decide, iu_X0, Or.inl (mz_in 340 (by decide +kernel) (by decide +kernel))⟩,
  List.forall_mem_cons.mpr ⟨⟨RX0, TX0, 9, rfl, by decide, iu_X0, Or.inl (mz_in 343 (by decide +kernel) (by decide +kernel))⟩,
  List.forall_mem_cons.mpr ⟨⟨RX0, TX0, 9, rfl, by decide, iu_X0, Or.inl (mz_in 346 (by decide +kernel) (by decide +kernel))⟩,
  List.forall_mem_cons.mpr ⟨⟨RX0, TX0, 9, rfl, by decide, iu_X0, Or.inl (mz_in 349 (by decide +kernel) (by decide +kernel))⟩,
  List.forall_mem_cons.mpr ⟨⟨RX0, TX0, 9, rfl, by decide, iu_X0, Or.inl (mz_in 352 (by decide +kernel) (by decide +kernel))⟩,
  List.forall_mem_cons.mpr ⟨⟨RX0, TX0, 9, rfl, by decide, iu_X0, Or.inl (mz_in 354 (by decide +kernel) (by decide +kernel))⟩,
  List.forall_mem_cons.mpr ⟨⟨RX0, TX0, 9, rfl, by decide, iu_X0, Or.inl (mz_in 356 (by decide +kernel) (by decide +kernel))⟩,
  List.forall_mem_cons.mpr ⟨⟨RX0, TX0, 9, rfl, by decide, iu_X0, Or.inl (mz_in 359 (by decide +kernel) (by decide +kernel))⟩,
  List.forall_mem_cons.mpr ⟨⟨RX0, TX0, 9, rfl, by decide, iu_X0, Or.inl (mz_in 362 (by decide +kernel) (by decide +kernel))⟩,
  fun _ h => absurd h List.not_mem_nil⟩⟩⟩⟩⟩⟩⟩⟩⟩)
theorem wf_X0_47 : Cond.fieldLink RX0 47 (TX0 0).1 (TX0 0).2.1 (TX0 0).2.2.1 ∈ mz_ws := mz_in 340 (by decide +kernel) (by decide +kernel)
theorem wf_X0_14 : Cond.fieldLink RX0 14 (TX0 1).1 (TX0 1).2.1 (TX0 1).2.2.1 ∈ mz_ws := mz_in 343 (by decide +kernel) (by decide +kernel)
theorem wf_X0_20 : Cond.fieldLink RX0 20 (TX0 2).1 (TX0 2).2.1 (TX0 2).2.2.1 ∈ mz_ws := mz_in 346 (by decide +kernel) (by decide +kernel)
theorem wf_X0_23 : Cond.fieldLink RX0 23 (TX0 3).1 (TX0 3).2.1 (TX0 3).2.2.1 ∈ mz_ws := mz_in 349 (by decide +kernel) (by decide +kernel)
theorem wf_X0_26 : Cond.fieldLink RX0 26 (TX0 4).1 (TX0 4).2.1 (TX0 4).2.2.1 ∈ mz_ws := mz_in 352 (by decide +kernel) (by decide +kernel)
theorem wf_X0_29 : Cond.fieldLink RX0 29 (TX0 5).1 (TX0 5).2.1 (TX0 5).2.2.1 ∈ mz_ws := mz_in 354 (by decide +kernel) (by decide +kernel)
theorem wf_X0_32 : Cond.fieldLink RX0 32 (TX0 6).1 (TX0 6).2.1 (TX0 6).2.2.1 ∈ mz_ws := mz_in 356 (by decide +kernel) (by decide +kernel)
theorem wf_X0_40 : Cond.fieldLink RX0 40 (TX0 7).1 (TX0 7).2.1 (TX0 7).2.2.1 ∈ mz_ws := mz_in 359 (by decide +kernel) (by decide +kernel)
theorem wf_X0_44 : Cond.fieldLink RX0 44 (TX0 8).1 (TX0 8).2.1 (TX0 8).2.2.1 ∈ mz_ws := mz_in 362 (by decide +kernel) (by decide +kernel)
def klX0 : List (Nat × Int64) := []
theorem KLX0 : mz_KL RX0 klX0 := fun _ _ h => by cases h
def flX1 : List (Nat × Nat × Nat) := [(42, 7, 0), (26, 1, 0), (14, 1, 1), (20, 1, 2), (23, 1, 3)]
theorem FLX1 : mz_FL RX1 vwCl flX1 := mz_FL_of (List.forall_mem_cons.mpr ⟨⟨RX7, TX7, 10, rfl, by decide, iu_X7, Or.inr ⟨"ManorLoops", mz_inn 177 (by decide +kernel) (by decide +kernel)⟩⟩,
  List.forall_mem_cons.mpr ⟨⟨RX1, TX1, 4, rfl, by decide, iu_X1, Or.inl (mz_in 246 (by decide +kernel) (by decide +kernel))⟩,
  List.forall_mem_cons.mpr ⟨⟨RX1, TX1, 4, rfl, by decide, iu_X1, Or.inl (mz_in 247 (by decide +kernel) (by decide +kernel))⟩,
  List.forall_mem_cons.mpr ⟨⟨RX1, TX1, 4, rfl, by decide, iu_X1, Or.inl (mz_in 250 (by decide +kernel) (by decide +kernel))⟩,
  List.forall_mem_cons.mpr ⟨⟨RX1, TX1, 4, rfl, by decide, iu_X1, Or.inl (mz_in 253 (by decide +kernel) (by decide +kernel))⟩,
  fun _ h => absurd h List.not_mem_nil⟩⟩⟩⟩⟩)
theorem wf_X1_26 : Cond.fieldLink RX1 26 (TX1 0).1 (TX1 0).2.1 (TX1 0).2.2.1 ∈ mz_ws := mz_in 246 (by decide +kernel) (by decide +kernel)
theorem wf_X1_14 : Cond.fieldLink RX1 14 (TX1 1).1 (TX1 1).2.1 (TX1 1).2.2.1 ∈ mz_ws := mz_in 247 (by decide +kernel) (by decide +kernel)
theorem wf_X1_20 : Cond.fieldLink RX1 20 (TX1 2).1 (TX1 2).2.1 (TX1 2).2.2.1 ∈ mz_ws := mz_in 250 (by decide +kernel) (by decide +kernel)
theorem wf_X1_23 : Cond.fieldLink RX1 23 (TX1 3).1 (TX1 3).2.1 (TX1 3).2.2.1 ∈ mz_ws := mz_in 253 (by decide +kernel) (by decide +kernel)
def klX1 : List (Nat × Int64) := []
theorem KLX1 : mz_KL RX1 klX1 := fun _ _ h => by cases h
def flX2 : List (Nat × Nat × Nat) := [(255, 4, 0), (237, 4, 2), (221, 4, 3), (214, 4, 4), (258, 4, 5), (138, 4, 6), (109, 7, 0), (149, 7, 2), (127, 7, 3), (130, 7, 5), (162, 7, 6), (267, 7, 7), (180, 7, 8), (177, 7, 9), (137, 1, 1), (118, 1, 2), (198, 5, 1), (199, 5, 2), (273, 5, 3), (207, 0, 0), (210, 0, 1), (240, 0, 2), (243, 0, 3), (231, 0, 6), (96, 0, 7), (234, 0, 8), (20, 2, 0), (24, 2, 1), (33, 2, 2), (40, 2, 3), (47, 2, 4), (54, 2, 5), (14, 2, 6), (58, 2, 7)]
theorem FLX2 : mz_FL RX2 vwCl flX2 := mz_FL_of (List.forall_mem_cons.mpr ⟨⟨RX4, TX4, 7, rfl, by decide, iu_X4, Or.inr ⟨"ManorLoops", mz_inn 134 (by decide +kernel) (by decide +kernel)⟩⟩,
  List.forall_mem_cons.mpr ⟨⟨RX4, TX4, 7, rfl, by decide, iu_X4, Or.inr ⟨"ManorLoops", mz_inn 138 (by decide +kernel) (by decide +kernel)⟩⟩,
  List.forall_mem_cons.mpr ⟨⟨RX4, TX4, 7, rfl, by decide, iu_X4, Or.inr ⟨"ManorLoops", mz_inn 141 (by decide +kernel) (by decide +kernel)⟩⟩,
  List.forall_mem_cons.mpr ⟨⟨RX4, TX4, 7, rfl, by decide, iu_X4, Or.inr ⟨"ManorLoops", mz_inn 144 (by decide +kernel) (by decide +kernel)⟩⟩,
  List.forall_mem_cons.mpr ⟨⟨RX4, TX4, 7, rfl, by decide, iu_X4, Or.inr ⟨"ManorLoops", mz_inn 147 (by decide +kernel) (by decide +kernel)⟩⟩,
  List.forall_mem_cons.mpr ⟨⟨RX4, TX4, 7, rfl, by decide, iu_X4, Or.inr ⟨"ManorLoops", mz_inn 149 (by decide +kernel) (by decide +kernel)⟩⟩,
  List.forall_mem_cons.mpr ⟨⟨RX7, TX7, 10, rfl, by decide, iu_X7, Or.inr ⟨"ManorLoops", mz_inn 176 (by decide +kernel) (by decide +kernel)⟩⟩,
  List.forall_mem_cons.mpr ⟨⟨RX7, TX7, 10, rfl, by decide, iu_X7, Or.inr ⟨"ManorLoops", mz_inn 184 (by decide +kernel) (by decide +kernel)⟩⟩,
  List.forall_mem_cons.mpr ⟨⟨RX7, TX7, 10, rfl, by decide, iu_X7, Or.inr ⟨"ManorLoops", mz_inn 186 (by decide +kernel) (by decide +kernel)⟩⟩,
  List.forall_mem_cons.mpr ⟨⟨RX7, TX7, 10, rfl, by decide, iu_X7, Or.inr ⟨"ManorLoops", mz_inn 191 (by decide +kernel) (by decide +kernel)⟩⟩,
  List.forall_mem_cons.mpr ⟨⟨RX7, TX7, 10, rfl, by decide, iu_X7, Or.inr ⟨"ManorLoops", mz_inn 195 (by decide +kernel) (by decide +kernel)⟩⟩,
  List.forall_mem_cons.mpr ⟨⟨RX7, TX7, 10, rfl, by decide, iu_X7, Or.inr ⟨"ManorLoops", mz_inn 201 (by decide +kernel) (by decide +kernel)⟩⟩,
  List.forall_mem_cons.mpr ⟨⟨RX7, TX7, 10, rfl, by decide, iu_X7, Or.inr ⟨"ManorLoops", mz_inn 203 (by decide +kernel) (by decide +kernel)⟩⟩,
  List.forall_mem_cons.mpr ⟨⟨RX7, TX7, 10, rfl, by decide, iu_X7, Or.inr ⟨"ManorLoops", mz_inn 207 (by decide +kernel) (by decide +kernel)⟩⟩,
  List.forall_mem_cons.mpr ⟨⟨RX1, TX1, 4, rfl, by decide, iu_X1, Or.inr ⟨"ManorLoops", mz_inn 248 (by decide +kernel) (by decide +kernel)⟩⟩,
  List.forall_mem_cons.mpr ⟨⟨RX1, TX1, 4, rfl, by decide, iu_X1, Or.inr ⟨"ManorLoops", mz_inn 251 (by decide +kernel) (by decide +kernel)⟩⟩,
  List.forall_mem_cons.mpr ⟨⟨RX5, TX5, 5, rfl, by decide, iu_X5, Or.inr ⟨"ManorLoops", mz_inn 310 (by decide +kernel) (by decide +kernel)⟩⟩,
  List.forall_mem_cons.mpr ⟨⟨RX5, TX5, 5, rfl, by decide, iu_X5, Or.inr ⟨"ManorLoops", mz_inn 312 (by decide +kernel) (by decide +kernel)⟩⟩,
  List.forall_mem_cons.mpr ⟨⟨RX5, TX5, 5, rfl, by decide, iu_X5, Or.inr ⟨"ManorLoops", mz_inn 316 (by decide +kernel) (by decide +kernel)⟩⟩,
  List.forall_mem_cons.mpr ⟨⟨RX0, TX0, 9, rfl, by decide, iu_X0, Or.inr ⟨"ManorLoops", mz_inn 342 (by decide +kernel) (by decide +kernel)⟩⟩,
  List.forall_mem_cons.mpr ⟨⟨RX0, TX0, 9, rfl, by decide, iu_X0, Or.inr ⟨"ManorLoops", mz_inn 345 (by decide +kernel) (by decide +kernel)⟩⟩,
  List.forall_mem_cons.mpr ⟨⟨RX0, TX0, 9, rfl, by decide, iu_X0, Or.inr ⟨"ManorLoops", mz_inn 348 (by decide +kernel) (by decide +kernel)⟩⟩,
  List.forall_mem_cons.mpr ⟨⟨RX0, TX0, 9, rfl, by decide, iu_X0, Or.inr ⟨"ManorLoops", mz_inn 350 (by decide +kernel) (by decide +kernel)⟩⟩,
  List.forall_mem_cons.mpr ⟨⟨RX0, TX0, 9, rfl, by decide, iu_X0, Or.inr ⟨"ManorLoops", mz_inn 357 (by decide +kernel) (by decide +kernel)⟩⟩,
  List.forall_mem_cons.mpr ⟨⟨RX0, TX0, 9, rfl, by decide, iu_X0, Or.inr ⟨"ManorLoops", mz_inn 360 (by decide +kernel) (by decide +kernel)⟩⟩,
  List.forall_mem_cons.mpr ⟨⟨RX0, TX0, 9, rfl, by decide, iu_X0, Or.inr ⟨"ManorLoops", mz_inn 363 (by decide +kernel) (by decide +kernel)⟩⟩,
  List.forall_mem_cons.mpr ⟨⟨RX2, TX2, 8, rfl, by decide, iu_X2, Or.inl (mz_in 384 (by decide +kernel) (by decide +kernel))⟩,
  List.forall_mem_cons.mpr ⟨⟨RX2, TX2, 8, rfl, by decide, iu_X2, Or.inl (mz_in 385 (by decide +kernel) (by decide +kernel))⟩,
  List.forall_mem_cons.mpr ⟨⟨RX2, TX2, 8, rfl, by decide, iu_X2, Or.inl (mz_in 386 (by decide +kernel) (by decide +kernel))⟩,
  List.forall_mem_cons.mpr ⟨⟨RX2, TX2, 8, rfl, by decide, iu_X2, Or.inl (mz_in 388 (by decide +kernel) (by decide +kernel))⟩,
  List.forall_mem_cons.mpr ⟨⟨RX2, TX2, 8, rfl, by decide, iu_X2, Or.inl (mz_in 390 (by decide +kernel) (by decide +kernel))⟩,
  List.forall_mem_cons.mpr ⟨⟨RX2, TX2, 8, rfl, by decide, iu_X2, Or.inl (mz_in 392 (by decide +kernel) (by decide +kernel))⟩,
  List.forall_mem_cons.mpr ⟨⟨RX2, TX2, 8, rfl, by decide, iu_X2, Or.inl (mz_in 394 (by decide +kernel) (by decide +kernel))⟩,
  List.forall_mem_cons.mpr ⟨⟨RX2, TX2, 8, rfl, by decide, iu_X2, Or.inl (mz_in 395 (by decide +kernel) (by decide +kernel))⟩,
  fun _ h => absurd h List.not_mem_nil⟩⟩⟩⟩⟩⟩⟩⟩⟩⟩⟩⟩⟩⟩⟩⟩⟩⟩⟩⟩⟩⟩⟩⟩⟩⟩⟩⟩⟩⟩⟩⟩⟩⟩)
theorem wf_X2_20 : Cond.fieldLink RX2 20 (TX2 0).1 (TX2 0).2.1 (TX2 0).2.2.1 ∈ mz_ws := mz_in 384 (by decide +kernel) (by decide +kernel)
theorem wf_X2_24 : Cond.fieldLink RX2 24 (TX2 1).1 (TX2 1).2.1 (TX2 1).2.2.1 ∈ mz_ws := mz_in 385 (by decide +kernel) (by decide +kernel)
theorem wf_X2_33 : Cond.fieldLink RX2 33 (TX2 2).1 (TX2 2).2.1 (TX2 2).2.2.1 ∈ mz_ws := mz_in 386 (by decide +kernel) (by decide +kernel)
theorem wf_X2_40 : Cond.fieldLink RX2 40 (TX2 3).1 (TX2 3).2.1 (TX2 3).2.2.1 ∈ mz_ws := mz_in 388 (by decide +kernel) (by decide +kernel)
theorem wf_X2_47 : Cond.fieldLink RX2 47 (TX2 4).1 (TX2 4).2.1 (TX2 4).2.2.1 ∈ mz_ws := mz_in 390 (by decide +kernel) (by decide +kernel)
theorem wf_X2_54 : Cond.fieldLink RX2 54 (TX2 5).1 (TX2 5).2.1 (TX2 5).2.2.1 ∈ mz_ws := mz_in 392 (by decide +kernel) (by decide +kernel)
theorem wf_X2_14 : Cond.fieldLink RX2 14 (TX2 6).1 (TX2 6).2.1 (TX2 6).2.2.1 ∈ mz_ws := mz_in 394 (by decide +kernel) (by decide +kernel)
theorem wf_X2_58 : Cond.fieldLink RX2 58 (TX2 7).1 (TX2 7).2.1 (TX2 7).2.2.1 ∈ mz_ws := mz_in 395 (by decide +kernel) (by decide +kernel)
def klX2 : List (Nat × Int64) := []
theorem KLX2 : mz_KL RX2 klX2 := fun _ _ h => by cases h
def flX3 : List (Nat × Nat × Nat) := [(9, 3, 0), (20, 3, 1)]
theorem FLX3 : mz_FL RX3 vwCl flX3 := mz_FL_of (List.forall_mem_cons.mpr ⟨⟨RX3, TX3, 2, rfl, by decide, iu_X3, Or.inl (mz_in 114 (by decide +kernel) (by decide +kernel))⟩,
  List.forall_mem_cons.mpr ⟨⟨RX3, TX3, 2, rfl, by decide, iu_X3, Or.inl (mz_in 115 (by decide +kernel) (by decide +kernel))⟩,
  fun _ h => absurd h List.not_mem_nil⟩⟩)
theorem wf_X3_9 : Cond.fieldLink RX3 9 (TX3 0).1 (TX3 0).2.1 (TX3 0).2.2.1 ∈ mz_ws := mz_in 114 (by decide +kernel) (by decide +kernel)
theorem wf_X3_20 : Cond.fieldLink RX3 20 (TX3 1).1 (TX3 1).2.1 (TX3 1).2.2.1 ∈ mz_ws := mz_in 115 (by decide +kernel) (by decide +kernel)
def klX3 : List (Nat × Int64) := []
theorem KLX3 : mz_KL RX3 klX3 := fun _ _ h => by cases h
def flX4 : List (Nat × Nat × Nat) := [(41, 4, 0), (51, 4, 1), (14, 4, 2), (20, 4, 3), (28, 4, 4), (32, 4, 5), (35, 4, 6)]
theorem FLX4 : mz_FL RX4 vwCl flX4 := mz_FL_of (List.forall_mem_cons.mpr ⟨⟨RX4, TX4, 7, rfl, by decide, iu_X4, Or.inl (mz_in 132 (by decide +kernel) (by decide +kernel))⟩,
  List.forall_mem_cons.mpr ⟨⟨RX4, TX4, 7, rfl, by decide, iu_X4, Or.inl (mz_in 135 (by decide +kernel) (by decide +kernel))⟩,
  List.forall_mem_cons.mpr ⟨⟨RX4, TX4, 7, rfl, by decide, iu_X4, Or.inl (mz_in 137 (by decide +kernel) (by decide +kernel))⟩,
  List.forall_mem_cons.mpr ⟨⟨RX4, TX4, 7, rfl, by decide, iu_X4, Or.inl (mz_in 140 (by decide +kernel) (by decide +kernel))⟩,
  List.forall_mem_cons.mpr ⟨⟨RX4, TX4, 7, rfl, by decide, iu_X4, Or.inl (mz_in 142 (by decide +kernel) (by decide +kernel))⟩,
  List.forall_mem_cons.mpr ⟨⟨RX4, TX4, 7, rfl, by decide, iu_X4, Or.inl (mz_in 145 (by decide +kernel) (by decide +kernel))⟩,
  List.forall_mem_cons.mpr ⟨⟨RX4, TX4, 7, rfl, by decide, iu_X4, Or.inl (mz_in 148 (by decide +kernel) (by decide +kernel))⟩,
  fun _ h => absurd h List.not_mem_nil⟩⟩⟩⟩⟩⟩⟩)
theorem wf_X4_41 : Cond.fieldLink RX4 41 (TX4 0).1 (TX4 0).2.1 (TX4 0).2.2.1 ∈ mz_ws := mz_in 132 (by decide +kernel) (by decide +kernel)
theorem wf_X4_51 : Cond.fieldLink RX4 51 (TX4 1).1 (TX4 1).2.1 (TX4 1).2.2.1 ∈ mz_ws := mz_in 135 (by decide +kernel) (by decide +kernel)
theorem wf_X4_14 : Cond.fieldLink RX4 14 (TX4 2).1 (TX4 2).2.1 (TX4 2).2.2.1 ∈ mz_ws := mz_in 137 (by decide +kernel) (by decide +kernel)
theorem wf_X4_20 : Cond.fieldLink RX4 20 (TX4 3).1 (TX4 3).2.1 (TX4 3).2.2.1 ∈ mz_ws := mz_in 140 (by decide +kernel) (by decide +kernel)
theorem wf_X4_28 : Cond.fieldLink RX4 28 (TX4 4).1 (TX4 4).2.1 (TX4 4).2.2.1 ∈ mz_ws := mz_in 142 (by decide +kernel) (by decide +kernel)
theorem wf_X4_32 : Cond.fieldLink RX4 32 (TX4 5).1 (TX4 5).2.1 (TX4 5).2.2.1 ∈ mz_ws := mz_in 145 (by decide +kernel) (by decide +kernel)
theorem wf_X4_35 : Cond.fieldLink RX4 35 (TX4 6).1 (TX4 6).2.1 (TX4 6).2.2.1 ∈ mz_ws := mz_in 148 (by decide +kernel) (by decide +kernel)
def klX4 : List (Nat × Int64) := []
theorem KLX4 : mz_KL RX4 klX4 := fun _ _ h => by cases h
def flX5 : List (Nat × Nat × Nat) := [(48, 7, 1), (54, 7, 4), (29, 5, 0), (14, 5, 1), (20, 5, 2), (23, 5, 3), (26, 5, 4)]
theorem FLX5 : mz_FL RX5 vwCl flX5 := mz_FL_of (List.forall_mem_cons.mpr ⟨⟨RX7, TX7, 10, rfl, by decide, iu_X7, Or.inr ⟨"ManorLoops", mz_inn 180 (by decide +kernel) (by decide +kernel)⟩⟩,
  List.forall_mem_cons.mpr ⟨⟨RX7, TX7, 10, rfl, by decide, iu_X7, Or.inr ⟨"ManorLoops", mz_inn 188 (by decide +kernel) (by decide +kernel)⟩⟩,
  List.forall_mem_cons.mpr ⟨⟨RX5, TX5, 5, rfl, by decide, iu_X5, Or.inl (mz_in 308 (by decide +kernel) (by decide +kernel))⟩,
  List.forall_mem_cons.mpr ⟨⟨RX5, TX5, 5, rfl, by decide, iu_X5, Or.inl (mz_in 309 (by decide +kernel) (by decide +kernel))⟩,
  List.forall_mem_cons.mpr ⟨⟨RX5, TX5, 5, rfl, by decide, iu_X5, Or.inl (mz_in 311 (by decide +kernel) (by decide +kernel))⟩,
  List.forall_mem_cons.mpr ⟨⟨RX5, TX5, 5, rfl, by decide, iu_X5, Or.inl (mz_in 314 (by decide +kernel) (by decide +kernel))⟩,
  List.forall_mem_cons.mpr ⟨⟨RX5, TX5, 5, rfl, by decide, iu_X5, Or.inl (mz_in 317 (by decide +kernel) (by decide +kernel))⟩,
  fun _ h => absurd h List.not_mem_nil⟩⟩⟩⟩⟩⟩⟩)
theorem wf_X5_29 : Cond.fieldLink RX5 29 (TX5 0).1 (TX5 0).2.1 (TX5 0).2.2.1 ∈ mz_ws := mz_in 308 (by decide +kernel) (by decide +kernel)
theorem wf_X5_14 : Cond.fieldLink RX5 14 (TX5 1).1 (TX5 1).2.1 (TX5 1).2.2.1 ∈ mz_ws := mz_in 309 (by decide +kernel) (by decide +kernel)
theorem wf_X5_20 : Cond.fieldLink RX5 20 (TX5 2).1 (TX5 2).2.1 (TX5 2).2.2.1 ∈ mz_ws := mz_in 311 (by decide +kernel) (by decide +kernel)
theorem wf_X5_23 : Cond.fieldLink RX5 23 (TX5 3).1 (TX5 3).2.1 (TX5 3).2.2.1 ∈ mz_ws := mz_in 314 (by decide +kernel) (by decide +kernel)
theorem wf_X5_26 : Cond.fieldLink RX5 26 (TX5 4).1 (TX5 4).2.1 (TX5 4).2.2.1 ∈ mz_ws := mz_in 317 (by decide +kernel) (by decide +kernel)
def klX5 : List (Nat × Int64) := []
theorem KLX5 : mz_KL RX5 klX5 := fun _ _ h => by cases h
def flX6 : List (Nat × Nat × Nat) := [(9, 6, 0)]
theorem FLX6 : mz_FL RX6 vwCl flX6 := mz_FL_of (List.forall_mem_cons.mpr ⟨⟨RX6, TX6, 1, rfl, by decide, iu_X6, Or.inl (mz_in 101 (by decide +kernel) (by decide +kernel))⟩,
  fun _ h => absurd h List.not_mem_nil⟩)
theorem wf_X6_9 : Cond.fieldLink RX6 9 (TX6 0).1 (TX6 0).2.1 (TX6 0).2.2.1 ∈ mz_ws := mz_in 101 (by decide +kernel) (by decide +kernel)
def klX6 : List (Nat × Int64) := []
theorem KLX6 : mz_KL RX6 klX6 := fun _ _ h => by cases h
def flX7 : List (Nat × Nat × Nat) := [(38, 7, 0), (46, 7, 1), (49, 7, 2), (14, 7, 3), (20, 7, 4), (23, 7, 5), (26, 7, 6), (29, 7, 7), (32, 7, 8), (35, 7, 9)]
theorem FLX7 : mz_FL RX7 vwCl flX7 := mz_FL_of (List.forall_mem_cons.mpr ⟨⟨RX7, TX7, 10, rfl, by decide, iu_X7, Or.inl (mz_in 174 (by decide +kernel) (by decide +kernel))⟩,
  List.forall_mem_cons.mpr ⟨⟨RX7, TX7, 10, rfl, by decide, iu_X7, Or.inl (mz_in 178 (by decide +kernel) (by decide +kernel))⟩,
  List.forall_mem_cons.mpr ⟨⟨RX7, TX7, 10, rfl, by decide, iu_X7, Or.inl (mz_in 181 (by decide +kernel) (by decide +kernel))⟩,
  List.forall_mem_cons.mpr ⟨⟨RX7, TX7, 10, rfl, by decide, iu_X7, Or.inl (mz_in 185 (by decide +kernel) (by decide +kernel))⟩,
  List.forall_mem_cons.mpr ⟨⟨RX7, TX7, 10, rfl, by decide, iu_X7, Or.inl (mz_in 187 (by decide +kernel) (by decide +kernel))⟩,
  List.forall_mem_cons.mpr ⟨⟨RX7, TX7, 10, rfl, by decide, iu_X7, Or.inl (mz_in 190 (by decide +kernel) (by decide +kernel))⟩,
  List.forall_mem_cons.mpr ⟨⟨RX7, TX7, 10, rfl, by decide, iu_X7, Or.inl (mz_in 194 (by decide +kernel) (by decide +kernel))⟩,
  List.forall_mem_cons.mpr ⟨⟨RX7, TX7, 10, rfl, by decide, iu_X7, Or.inl (mz_in 198 (by decide +kernel) (by decide +kernel))⟩,
  List.forall_mem_cons.mpr ⟨⟨RX7, TX7, 10, rfl, by decide, iu_X7, Or.inl (mz_in 202 (by decide +kernel) (by decide +kernel))⟩,
  List.forall_mem_cons.mpr ⟨⟨RX7, TX7, 10, rfl, by decide, iu_X7, Or.inl (mz_in 206 (by decide +kernel) (by decide +kernel))⟩,
  fun _ h => absurd h List.not_mem_nil⟩⟩⟩⟩⟩⟩⟩⟩⟩⟩)
theorem wf_X7_38 : Cond.fieldLink RX7 38 (TX7 0).1 (TX7 0).2.1 (TX7 0).2.2.1 ∈ mz_ws := mz_in 174 (by decide +kernel) (by decide +kernel)
theorem wf_X7_46 : Cond.fieldLink RX7 46 (TX7 1).1 (TX7 1).2.1 (TX7 1).2.2.1 ∈ mz_ws := mz_in 178 (by decide +kernel) (by decide +kernel)
theorem wf_X7_49 : Cond.fieldLink RX7 49 (TX7 2).1 (TX7 2).2.1 (TX7 2).2.2.1 ∈ mz_ws := mz_in 181 (by decide +kernel) (by decide +kernel)
theorem wf_X7_14 : Cond.fieldLink RX7 14 (TX7 3).1 (TX7 3).2.1 (TX7 3).2.2.1 ∈ mz_ws := mz_in 185 (by decide +kernel) (by decide +kernel)
theorem wf_X7_20 : Cond.fieldLink RX7 20 (TX7 4).1 (TX7 4).2.1 (TX7 4).2.2.1 ∈ mz_ws := mz_in 187 (by decide +kernel) (by decide +kernel)
theorem wf_X7_23 : Cond.fieldLink RX7 23 (TX7 5).1 (TX7 5).2.1 (TX7 5).2.2.1 ∈ mz_ws := mz_in 190 (by decide +kernel) (by decide +kernel)
theorem wf_X7_26 : Cond.fieldLink RX7 26 (TX7 6).1 (TX7 6).2.1 (TX7 6).2.2.1 ∈ mz_ws := mz_in 194 (by decide +kernel) (by decide +kernel)
theorem wf_X7_29 : Cond.fieldLink RX7 29 (TX7 7).1 (TX7 7).2.1 (TX7 7).2.2.1 ∈ mz_ws := mz_in 198 (by decide +kernel) (by decide +kernel)
theorem wf_X7_32 : Cond.fieldLink RX7 32 (TX7 8).1 (TX7 8).2.1 (TX7 8).2.2.1 ∈ mz_ws := mz_in 202 (by decide +kernel) (by decide +kernel)
theorem wf_X7_35 : Cond.fieldLink RX7 35 (TX7 9).1 (TX7 9).2.1 (TX7 9).2.2.1 ∈ mz_ws := mz_in 206 (by decide +kernel) (by decide +kernel)
def klX7 : List (Nat × Int64) := []
theorem KLX7 : mz_KL RX7 klX7 := fun _ _ h => by cases h
def flX8 : List (Nat × Nat × Nat) := [(48, 7, 2), (83, 7, 5), (80, 7, 6), (70, 7, 7), (73, 7, 8), (32, 8, 0), (14, 8, 1), (20, 8, 2), (23, 8, 3), (26, 8, 4), (29, 8, 5), (40, 8, 6)]
theorem FLX8 : mz_FL RX8 vwCl flX8 := mz_FL_of (List.forall_mem_cons.mpr ⟨⟨RX7, TX7, 10, rfl, by decide, iu_X7, Or.inr ⟨"ManorLoops", mz_inn 182 (by decide +kernel) (by decide +kernel)⟩⟩,
  List.forall_mem_cons.mpr ⟨⟨RX7, TX7, 10, rfl, by decide, iu_X7, Or.inr ⟨"ManorLoops", mz_inn 192 (by decide +kernel) (by decide +kernel)⟩⟩,
  List.forall_mem_cons.mpr ⟨⟨RX7, TX7, 10, rfl, by decide, iu_X7, Or.inr ⟨"ManorLoops", mz_inn 196 (by decide +kernel) (by decide +kernel)⟩⟩,
  List.forall_mem_cons.mpr ⟨⟨RX7, TX7, 10, rfl, by decide, iu_X7, Or.inr ⟨"ManorLoops", mz_inn 199 (by decide +kernel) (by decide +kernel)⟩⟩,
  List.forall_mem_cons.mpr ⟨⟨RX7, TX7, 10, rfl, by decide, iu_X7, Or.inr ⟨"ManorLoops", mz_inn 204 (by decide +kernel) (by decide +kernel)⟩⟩,
  List.forall_mem_cons.mpr ⟨⟨RX8, TX8, 7, rfl, by decide, iu_X8, Or.inl (mz_in 272 (by decide +kernel) (by decide +kernel))⟩,
  List.forall_mem_cons.mpr ⟨⟨RX8, TX8, 7, rfl, by decide, iu_X8, Or.inl (mz_in 273 (by decide +kernel) (by decide +kernel))⟩,
  List.forall_mem_cons.mpr ⟨⟨RX8, TX8, 7, rfl, by decide, iu_X8, Or.inl (mz_in 275 (by decide +kernel) (by decide +kernel))⟩,
  List.forall_mem_cons.mpr ⟨⟨RX8, TX8, 7, rfl, by decide, iu_X8, Or.inl (mz_in 277 (by decide +kernel) (by decide +kernel))⟩,
  List.forall_mem_cons.mpr ⟨⟨RX8, TX8, 7, rfl, by decide, iu_X8, Or.inl (mz_in 279 (by decide +kernel) (by decide +kernel))⟩,
  List.forall_mem_cons.mpr ⟨⟨RX8, TX8, 7, rfl, by decide, iu_X8, Or.inl (mz_in 281 (by decide +kernel) (by decide +kernel))⟩,
  List.forall_mem_cons.mpr ⟨⟨RX8, TX8, 7, rfl, by decide, iu_X8, Or.inl (mz_in 283 (by decide +kernel) (by decide +kernel))⟩,
  fun _ h => absurd h List.not_mem_nil⟩⟩⟩⟩⟩⟩⟩⟩⟩⟩⟩⟩)
theorem wf_X8_32 : Cond.fieldLink RX8 32 (TX8 0).1 (TX8 0).2.1 (TX8 0).2.2.1 ∈ mz_ws := mz_in 272 (by decide +kernel) (by decide +kernel)
theorem wf_X8_14 : Cond.fieldLink RX8 14 (TX8 1).1 (TX8 1).2.1 (TX8 1).2.2.1 ∈ mz_ws := mz_in 273 (by decide +kernel) (by decide +kernel)
theorem wf_X8_20 : Cond.fieldLink RX8 20 (TX8 2).1 (TX8 2).2.1 (TX8 2).2.2.1 ∈ mz_ws := mz_in 275 (by decide +kernel) (by decide +kernel)
theorem wf_X8_23 : Cond.fieldLink RX8 23 (TX8 3).1 (TX8 3).2.1 (TX8 3).2.2.1 ∈ mz_ws := mz_in 277 (by decide +kernel) (by decide +kernel)
theorem wf_X8_26 : Cond.fieldLink RX8 26 (TX8 4).1 (TX8 4).2.1 (TX8 4).2.2.1 ∈ mz_ws := mz_in 279 (by decide +kernel) (by decide +kernel)
theorem wf_X8_29 : Cond.fieldLink RX8 29 (TX8 5).1 (TX8 5).2.1 (TX8 5).2.2.1 ∈ mz_ws := mz_in 281 (by decide +kernel) (by decide +kernel)
theorem wf_X8_40 : Cond.fieldLink RX8 40 (TX8 6).1 (TX8 6).2.1 (TX8 6).2.2.1 ∈ mz_ws := mz_in 283 (by decide +kernel) (by decide +kernel)
def klX8 : List (Nat × Int64) := []
theorem KLX8 : mz_KL RX8 klX8 := fun _ _ h => by cases h
def flX9 : List (Nat × Nat × Nat) := [(42, 4, 0), (61, 4, 1), (255, 4, 2), (64, 4, 4), (270, 4, 5), (273, 4, 6), (80, 7, 0), (98, 7, 1), (129, 7, 2), (330, 7, 4), (292, 7, 5), (293, 7, 6), (296, 7, 7), (299, 7, 8), (302, 7, 9), (276, 1, 1), (241, 1, 2), (286, 1, 3), (305, 8, 1), (308, 8, 2), (311, 8, 3), (191, 8, 4), (314, 8, 5), (348, 8, 6), (336, 5, 2), (339, 5, 3), (212, 5, 4), (150, 0, 0), (225, 0, 1), (170, 0, 2), (320, 0, 3), (323, 0, 4), (326, 0, 5), (327, 0, 6), (342, 0, 7), (258, 0, 8), (88, 2, 2), (187, 2, 3), (106, 2, 4), (146, 2, 5), (126, 2, 7), (10, 9, 0), (19, 9, 1), (28, 9, 2), (32, 9, 3)]
theorem FLX9 : mz_FL RX9 vwCl flX9 := mz_FL_of (List.forall_mem_cons.mpr ⟨⟨RX4, TX4, 7, rfl, by decide, iu_X4, Or.inr ⟨"ManorLoops", mz_inn 133 (by decide +kernel) (by decide +kernel)⟩⟩,
  List.forall_mem_cons.mpr ⟨⟨RX4, TX4, 7, rfl, by decide, iu_X4, Or.inr ⟨"ManorLoops", mz_inn 136 (by decide +kernel) (by decide +kernel)⟩⟩,
  List.forall_mem_cons.mpr ⟨⟨RX4, TX4, 7, rfl, by decide, iu_X4, Or.inr ⟨"ManorLoops", mz_inn 139 (by decide +kernel) (by decide +kernel)⟩⟩,
  List.forall_mem_cons.mpr ⟨⟨RX4, TX4, 7, rfl, by decide, iu_X4, Or.inr ⟨"ManorLoops", mz_inn 143 (by decide +kernel) (by decide +kernel)⟩⟩,
  List.forall_mem_cons.mpr ⟨⟨RX4, TX4, 7, rfl, by decide, iu_X4, Or.inr ⟨"ManorLoops", mz_inn 146 (by decide +kernel) (by decide +kernel)⟩⟩,
  List.forall_mem_cons.mpr ⟨⟨RX4, TX4, 7, rfl, by decide, iu_X4, Or.inr ⟨"ManorLoops", mz_inn 150 (by decide +kernel) (by decide +kernel)⟩⟩,
  List.forall_mem_cons.mpr ⟨⟨RX7, TX7, 10, rfl, by decide, iu_X7, Or.inr ⟨"ManorLoops", mz_inn 175 (by decide +kernel) (by decide +kernel)⟩⟩,
  List.forall_mem_cons.mpr ⟨⟨RX7, TX7, 10, rfl, by decide, iu_X7, Or.inr ⟨"ManorLoops", mz_inn 179 (by decide +kernel) (by decide +kernel)⟩⟩,
  List.forall_mem_cons.mpr ⟨⟨RX7, TX7, 10, rfl, by decide, iu_X7, Or.inr ⟨"ManorLoops", mz_inn 183 (by decide +kernel) (by decide +kernel)⟩⟩,
  List.forall_mem_cons.mpr ⟨⟨RX7, TX7, 10, rfl, by decide, iu_X7, Or.inr ⟨"ManorLoops", mz_inn 189 (by decide +kernel) (by decide +kernel)⟩⟩,
  List.forall_mem_cons.mpr ⟨⟨RX7, TX7, 10, rfl, by decide, iu_X7, Or.inr ⟨"ManorLoops", mz_inn 193 (by decide +kernel) (by decide +kernel)⟩⟩,
  List.forall_mem_cons.mpr ⟨⟨RX7, TX7, 10, rfl, by decide, iu_X7, Or.inr ⟨"ManorLoops", mz_inn 197 (by decide +kernel) (by decide +kernel)⟩⟩,
  List.forall_mem_cons.mpr ⟨⟨RX7, TX7, 10, rfl, by decide, iu_X7, Or.inr ⟨"ManorLoops", mz_inn 200 (by decide +kernel) (by decide +kernel)⟩⟩,
  List.forall_mem_cons.mpr ⟨⟨RX7, TX7, 10, rfl, by decide, iu_X7, Or.inr ⟨"ManorLoops", mz_inn 205 (by decide +kernel) (by decide +kernel)⟩⟩,
  List.forall_mem_cons.mpr ⟨⟨RX7, TX7, 10, rfl, by decide, iu_X7, Or.inr ⟨"ManorLoops", mz_inn 208 (by decide +kernel) (by decide +kernel)⟩⟩,
  List.forall_mem_cons.mpr ⟨⟨RX1, TX1, 4, rfl, by decide, iu_X1, Or.inr ⟨"ManorLoops", mz_inn 249 (by decide +kernel) (by decide +kernel)⟩⟩,
  List.forall_mem_cons.mpr ⟨⟨RX1, TX1, 4, rfl, by decide, iu_X1, Or.inr ⟨"ManorLoops", mz_inn 252 (by decide +kernel) (by decide +kernel)⟩⟩,
  List.forall_mem_cons.mpr ⟨⟨RX1, TX1, 4, rfl, by decide, iu_X1, Or.inr ⟨"ManorLoops", mz_inn 254 (by decide +kernel) (by decide +kernel)⟩⟩,
  List.forall_mem_cons.mpr ⟨⟨RX8, TX8, 7, rfl, by decide, iu_X8, Or.inr ⟨"ManorLoops", mz_inn 274 (by decide +kernel) (by decide +kernel)⟩⟩,
  List.forall_mem_cons.mpr ⟨⟨RX8, TX8, 7, rfl, by decide, iu_X8, Or.inr ⟨"ManorLoops", mz_inn 276 (by decide +kernel) (by decide +kernel)⟩⟩,
  List.forall_mem_cons.mpr ⟨⟨RX8, TX8, 7, rfl, by decide, iu_X8, Or.inr ⟨"ManorLoops", mz_inn 278 (by decide +kernel) (by decide +kernel)⟩⟩,
  List.forall_mem_cons.mpr ⟨⟨RX8, TX8, 7, rfl, by decide, iu_X8, Or.inr ⟨"ManorLoops", mz_inn 280 (by decide +kernel) (by decide +kernel)⟩⟩,
  List.forall_mem_cons.mpr ⟨⟨RX8, TX8, 7, rfl, by decide, iu_X8, Or.inr ⟨"ManorLoops", mz_inn 282 (by decide +kernel) (by decide +kernel)⟩⟩,
  List.forall_mem_cons.mpr ⟨⟨RX8, TX8, 7, rfl, by decide, iu_X8, Or.inr ⟨"ManorLoops", mz_inn 284 (by decide +kernel) (by decide +kernel)⟩⟩,
  List.forall_mem_cons.mpr ⟨⟨RX5, TX5, 5, rfl, by decide, iu_X5, Or.inr ⟨"ManorLoops", mz_inn 313 (by decide +kernel) (by decide +kernel)⟩⟩,
  List.forall_mem_cons.mpr ⟨⟨RX5, TX5, 5, rfl, by decide, iu_X5, Or.inr ⟨"ManorLoops", mz_inn 315 (by decide +kernel) (by decide +kernel)⟩⟩,
  List.forall_mem_cons.mpr ⟨⟨RX5, TX5, 5, rfl, by decide, iu_X5, Or.inr ⟨"ManorLoops", mz_inn 318 (by decide +kernel) (by decide +kernel)⟩⟩,
  List.forall_mem_cons.mpr ⟨⟨RX0, TX0, 9, rfl, by decide, iu_X0, Or.inr ⟨"ManorLoops", mz_inn 341 (by decide +kernel) (by decide +kernel)⟩⟩,
  List.forall_mem_cons.mpr ⟨⟨RX0, TX0, 9, rfl, by decide, iu_X0, Or.inr ⟨"ManorLoops", mz_inn 344 (by decide +kernel) (by decide +kernel)⟩⟩,
  List.forall_mem_cons.mpr ⟨⟨RX0, TX0, 9, rfl, by decide, iu_X0, Or.inr ⟨"ManorLoops", mz_inn 347 (by decide +kernel) (by decide +kernel)⟩⟩,
  List.forall_mem_cons.mpr ⟨⟨RX0, TX0, 9, rfl, by decide, iu_X0, Or.inr ⟨"ManorLoops", mz_inn 351 (by decide +kernel) (by decide +kernel)⟩⟩,
  List.forall_mem_cons.mpr ⟨⟨RX0, TX0, 9, rfl, by decide, iu_X0, Or.inr ⟨"ManorLoops", mz_inn 353 (by decide +kernel) (by decide +kernel)⟩⟩,
  List.forall_mem_cons.mpr ⟨⟨RX0, TX0, 9, rfl, by decide, iu_X0, Or.inr ⟨"ManorLoops", mz_inn 355 (by decide +kernel) (by decide +kernel)⟩⟩,
  List.forall_mem_cons.mpr ⟨⟨RX0, TX0, 9, rfl, by decide, iu_X0, Or.inr ⟨"ManorLoops", mz_inn 358 (by decide +kernel) (by decide +kernel)⟩⟩,
  List.forall_mem_cons.mpr ⟨⟨RX0, TX0, 9, rfl, by decide, iu_X0, Or.inr ⟨"ManorLoops", mz_inn 361 (by decide +kernel) (by decide +kernel)⟩⟩,
  List.forall_mem_cons.mpr ⟨⟨RX0, TX0, 9, rfl, by decide, iu_X0, Or.inr ⟨"ManorLoops", mz_inn 364 (by decide +kernel) (by decide +kernel)⟩⟩,
  List.forall_mem_cons.mpr ⟨⟨RX2, TX2, 8, rfl, by decide, iu_X2, Or.inr ⟨"ManorLoops", mz_inn 387 (by decide +kernel) (by decide +kernel)⟩⟩,
  List.forall_mem_cons.mpr ⟨⟨RX2, TX2, 8, rfl, by decide, iu_X2, Or.inr ⟨"ManorLoops", mz_inn 389 (by decide +kernel) (by decide +kernel)⟩⟩,
  List.forall_mem_cons.mpr ⟨⟨RX2, TX2, 8, rfl, by decide, iu_X2, Or.inr ⟨"ManorLoops", mz_inn 391 (by decide +kernel) (by decide +kernel)⟩⟩,
  List.forall_mem_cons.mpr ⟨⟨RX2, TX2, 8, rfl, by decide, iu_X2, Or.inr ⟨"ManorLoops", mz_inn 393 (by decide +kernel) (by decide +kernel)⟩⟩,
  List.forall_mem_cons.mpr ⟨⟨RX2, TX2, 8, rfl, by decide, iu_X2, Or.inr ⟨"ManorLoops", mz_inn 396 (by decide +kernel) (by decide +kernel)⟩⟩,
  List.forall_mem_cons.mpr ⟨⟨RX9, TX9, 4, rfl, by decide, iu_X9, Or.inl (mz_in 414 (by decide +kernel) (by decide +kernel))⟩,
  List.forall_mem_cons.mpr ⟨⟨RX9, TX9, 4, rfl, by decide, iu_X9, Or.inl (mz_in 415 (by decide +kernel) (by decide +kernel))⟩,
  List.forall_mem_cons.mpr ⟨⟨RX9, TX9, 4, rfl, by decide, iu_X9, Or.inl (mz_in 416 (by decide +kernel) (by decide +kernel))⟩,
  List.forall_mem_cons.mpr ⟨⟨RX9, TX9, 4, rfl, by decide, iu_X9, Or.inl (mz_in 417 (by decide +kernel) (by decide +kernel))⟩,
  fun _ h => absurd h List.not_mem_nil⟩⟩⟩⟩⟩⟩⟩⟩⟩⟩⟩⟩⟩⟩⟩⟩⟩⟩⟩⟩⟩⟩⟩⟩⟩⟩⟩⟩⟩⟩⟩⟩⟩⟩⟩⟩⟩⟩⟩⟩⟩⟩⟩⟩⟩)
theorem wf_X9_10 : Cond.fieldLink RX9 10 (TX9 0).1 (TX9 0).2.1 (TX9 0).2.2.1 ∈ mz_ws := mz_in 414 (by decide +kernel) (by decide +kernel)
theorem wf_X9_19 : Cond.fieldLink RX9 19 (TX9 1).1 (TX9 1).2.1 (TX9 1).2.2.1 ∈ mz_ws := mz_in 415 (by decide +kernel) (by decide +kernel)
theorem wf_X9_28 : Cond.fieldLink RX9 28 (TX9 2).1 (TX9 2).2.1 (TX9 2).2.2.1 ∈ mz_ws := mz_in 416 (by decide +kernel) (by decide +kernel)
theorem wf_X9_32 : Cond.fieldLink RX9 32 (TX9 3).1 (TX9 3).2.1 (TX9 3).2.2.1 ∈ mz_ws := mz_in 417 (by decide +kernel) (by decide +kernel)
def klX9 : List (Nat × Int64) := [(373, 9103), (398, 31)]
theorem KLX9 : mz_KL RX9 klX9 := by
  intro idx v h
  simp only [klX9, List.lookup_cons] at h
  split at h
  · rename_i e
    have e := eq_of_beq e
    subst e
    cases h
    exact mz_in 453 (by decide +kernel) (by decide +kernel)
  split at h
  · rename_i e
    have e := eq_of_beq e
    subst e
    cases h
    exact mz_in 546 (by decide +kernel) (by decide +kernel)
  cases h
end
section
/-! loops, as programs and as walks -/
def mz_n (n : Int32) : Nat := n.toInt.toNat
def mz_lp {α : Type} (F : Int32 → α → α) : Nat → Nat → α → α
  | _, 0, a => a
  | j, r + 1, a => mz_lp F (j + 1) r (F (nI j) a)
/-- for (i = 0; i < n; i++) a = F(i, a) -/
def mz_fr {α : Type} (n : Int32) (F : Int32 → α → α) (a : α) : α := mz_lp F 0 (mz_n n) a
theorem mz_n_lt (n : Int32) : mz_n n < 2 ^ 31 := by
  have := Int32.toInt_lt n
  unfold mz_n
  omega
theorem mz_n_le {n : Int32} {j : Nat} (hj : j < 2 ^ 31) : n ≤ nI j ↔ mz_n n ≤ j := by
  rw [Int32.le_iff_toInt_le, nI_toInt hj]
  unfold mz_n
  omega
theorem mz_loop {α : Type} (n : Int32) (F : Int32 → α → α) (K : Int32 → α → Prop) (a : α)
    (h : ∀ (i : Int32) (a' : α), 0 ≤ i → (n ≤ i → a' = mz_fr n F a) → (¬ n ≤ i → K (i + 1) (F i a')) → K i a') : K 0 a := by
  have key : ∀ (r j : Nat) (a' : α), j + r = mz_n n → mz_lp F j r a' = mz_fr n F a → K (nI j) a' := by
    intro r
    induction r with
    | zero =>
      intro j a' hj he
      have hb := mz_n_lt n
      refine h (nI j) a' (nI_pos' (by omega)) (fun _ => he) (fun hn => ?_)
      exact absurd ((mz_n_le (by omega)).mpr (by omega)) hn
    | succ r ih =>
      intro j a' hj he
      have hb := mz_n_lt n
      refine h (nI j) a' (nI_pos' (by omega)) (fun hn => ?_) (fun _ => ?_)
      · have := (mz_n_le (by omega)).mp hn
        omega
      · rw [nI_1]
        exact ih (j + 1) _ (by omega) he
  exact key (mz_n n) 0 a (by omega) rfl
/-- the first i below n with P, from j on -/
def mz_fd (P : Int32 → Bool) : Nat → Nat → Option Int32
  | _, 0 => none
  | j, r + 1 => if P (nI j) = true then some (nI j) else mz_fd P (j + 1) r
def mz_find (n : Int32) (P : Int32 → Bool) : Option Int32 := mz_fd P 0 (mz_n n)
theorem mz_loopf (n : Int32) (P : Int32 → Bool) (K : Int32 → Prop)
    (h : ∀ i : Int32, 0 ≤ i → (n ≤ i → mz_find n P = none) → (¬ n ≤ i → P i = true → mz_find n P = some i) → (¬ n ≤ i → P i = false → K (i + 1)) → K i) : K 0 := by
  have key : ∀ (r j : Nat), j + r = mz_n n → mz_fd P j r = mz_find n P → K (nI j) := by
    intro r
    induction r with
    | zero =>
      intro j hj he
      have hb := mz_n_lt n
      refine h (nI j) (nI_pos' (by omega)) (fun _ => he.symm) (fun hn => ?_) (fun hn => ?_)
      · exact absurd ((mz_n_le (by omega)).mpr (by omega)) hn
      · exact absurd ((mz_n_le (by omega)).mpr (by omega)) hn
    | succ r ih =>
      intro j hj he
      have hb := mz_n_lt n
      unfold mz_fd at he
      refine h (nI j) (nI_pos' (by omega)) (fun hn => ?_) (fun _ hp => ?_) (fun _ hp => ?_)
      · have := (mz_n_le (by omega)).mp hn
        omega
      · rw [if_pos hp] at he; exact he.symm
      · rw [if_neg (by rw [hp]; decide)] at he
        rw [nI_1]
        exact ih (j + 1) (by omega) he
  exact key (mz_n n) 0 (by omega) rfl
/-! rows of numbers -/
def mz_rg (n : Nat) (f : Nat → Int32) (i : Int32) : Int32 := if i < 0 then -1 else if Int32.ofNat n ≤ i then -1 else f i.toNatClampNeg
def mz_rs (n : Nat) (f : Nat → Int32) (i v : Int32) : Nat → Int32 := if i < 0 then f else if Int32.ofNat n ≤ i then f else upd f i.toNatClampNeg v
def mz_ra (n : Nat) (f : Nat → Int32) (i v : Int32) : Nat → Int32 := if i < 0 then f else if Int32.ofNat n ≤ i then f else upd f i.toNatClampNeg (f i.toNatClampNeg + v)
def mz_sum (n : Nat) (f : Nat → Int32) : Int32 := mz_fr (Int32.ofNat n) (fun i a => a + f i.toNatClampNeg) 0
theorem mz_vin {n : Nat} {i : Int32} (hn : n < 2 ^ 31) (h1 : ¬ i < 0) (h2 : ¬ Int32.ofNat n ≤ i) : vp_in i n := by
  rcases pk_ix i hn with h | h | ⟨j, hj, rfl⟩
  · exact absurd h h1
  · exact absurd h h2
  · exact vp_in_nI hj hn
theorem mz_vin' {n : Nat} {i : Int32} (hn : n < 2 ^ 31) (h1 : 0 ≤ i) (h2 : ¬ Int32.ofNat n ≤ i) : vp_in i n := mz_vin hn (Int32.not_lt.mpr h1) h2
def mz_row (n : Nat) : List (Option mz_Sh) := [some (.inr (6, [some (some 1)])), some (.inl n)]
end
section
theorem mz_dup2 {Γ : mz_G} {l : Launch} {own : String} {cc : ByteArray} {nL k n : Nat} {ret : Option FieldType} {D : va_G} {cl : List vw_C} {tys : List (ClassId × FieldType)} {rm : Room} {ρ : Nat → Nat} {P : Heap → Prop} {pc : Nat} {L : List (Nat × Value)} {st : List Value} {a b : Value} (C : mz_C Γ l own cc nL ret D cl tys rm) (hd : decode cc pc = .ok (.dup2, 1)) (ha : a.category = 1) (hb2 : b.category = 1)
    (kk : mz_W Γ ρ nL k n P (pc + 1) L (a :: b :: a :: b :: st)) : mz_W Γ ρ nL k n P pc L (a :: b :: st) := by
  obtain ⟨p, l', e, R, s, m, args, below, meth, c, H0, A, Q⟩ := Γ
  obtain ⟨-, hx, hb, -⟩ := C
  exact fun H ls locs hP hS hl => lv_dup2_11 hx hb hd (by rw [mz_e_cat]; exact ha) (by rw [mz_e_cat]; exact hb2) (kk H ls locs hP hS hl)
theorem mz_I_row {ρ : Nat → Nat} {lay : List (Option mz_Sh)} {r a n : Nat} (hI : mz_I ρ lay) (hr : lay[r]? = some (some (.inr (6, [some (some a)])))) (ha : lay[a]? = some (some (.inl n))) : mz_I (fun k => ρ (if k = 0 then r else a)) (mz_row n) := by
  have hne : r ≠ a := fun e => by subst e; rw [hr] at ha; cases ha
  intro i j x y hi hj e
  have hi2 : i < 2 := (List.getElem?_eq_some_iff.mp hi).1
  have hj2 : j < 2 := (List.getElem?_eq_some_iff.mp hj).1
  rcases (show i = 0 ∨ i = 1 by omega) with rfl | rfl <;> rcases (show j = 0 ∨ j = 1 by omega) with rfl | rfl
  · rfl
  · exact absurd (hI _ _ _ _ hr ha e) hne
  · exact absurd (hI _ _ _ _ ha hr e).symm hne
  · rfl
theorem mz_row_sub {lay : List (Option mz_Sh)} {r a n : Nat} (hr : lay[r]? = some (some (.inr (6, [some (some a)])))) (ha : lay[a]? = some (some (.inl n))) : ∀ (k : Nat) (sh : mz_Sh), (mz_row n)[k]? = some (some sh) → lay[if k = 0 then r else a]? = some (some (mz_shm (fun k => if k = 0 then r else a) sh)) := by
  intro k sh hk
  have hk2 : k < 2 := (List.getElem?_eq_some_iff.mp hk).1
  rcases (show k = 0 ∨ k = 1 by omega) with rfl | rfl
  · cases hk; exact hr
  · cases hk; exact ha
theorem FLJ7 : mz_FL RJ7 vwCl [] := fun _ _ _ h => by cases h
theorem KLJ7 : mz_KL RJ7 [] := fun _ _ h => by cases h
set_option maxHeartbeats 4000000 in
theorem f_Row_get_0 (l : Launch) (D : va_G) (cA : ClassId) (ρ : Nat → Nat) (n : Nat) (hn : n < 2 ^ 31) (M : mz_Mem) (i : Int32) : mz_M l D vwCl cA ρ (mz_row n) yX6_get cX6_get 2 (some .int) 0 0 [.ref 0, .int i] M (some (.int (mz_rg n (M 1) i))) M := by
  refine mz_in0 (by decide +kernel) (Nat.le_of_ble_eq_true rfl) (fun Γ C E => ?_)
  have E' := (⟨_, _, _, E⟩ : ∃ Qc mc ms, mz_E Γ Qc mc ms (mz_A ρ (mz_row n)))
  refine mz_go FLX6 KLX6 C [(0, .iload_n 1)] (by decide +kernel) (pc' := 1) (L' := [(0, .ref 0), (1, .int i)]) (st' := [.int i]) rfl ?_
  refine mz_zlt (off := 21) (tgt := 22) C (by decide +kernel) (by decide) (fun h1 => ?_) (fun h1 => ?_)
  · refine mz_go FLX6 KLX6 C [(22, .iconst (-1))] (by decide +kernel) (pc' := 23) (L' := [(0, .ref 0), (1, .int i)]) (st' := [.int (-1)]) rfl ?_
    exact mz_iret C E (by decide +kernel) (by unfold mz_rg; rw [if_pos h1]) rfl
  · refine mz_go FLX6 KLX6 C [(4, .iload_n 1), (5, .aload_n 0), (6, .getfield 9), (9, .arraylength)] (by decide +kernel) (pc' := 10) (L' := [(0, .ref 0), (1, .int i)]) (st' := [.int (Int32.ofNat n), .int i]) rfl ?_
    refine mz_ige (off := 12) (tgt := 22) C (by decide +kernel) (by decide) (fun h2 => ?_) (fun h2 => ?_)
    · refine mz_go FLX6 KLX6 C [(22, .iconst (-1))] (by decide +kernel) (pc' := 23) (L' := [(0, .ref 0), (1, .int i)]) (st' := [.int (-1)]) rfl ?_
      exact mz_iret C E (by decide +kernel) (by unfold mz_rg; rw [if_neg h1, if_pos h2]) rfl
    · refine mz_go FLX6 KLX6 C [(13, .aload_n 0), (14, .getfield 9), (17, .iload_n 1)] (by decide +kernel) (pc' := 18) (L' := [(0, .ref 0), (1, .int i)]) (st' := [.int i, .ref 1]) rfl ?_
      refine mz_ild (id := 1) (N := n) C rfl (mz_vin hn h1 h2) (by decide +kernel) ?_
      refine mz_go FLX6 KLX6 C [(19, .goto 4)] (by decide +kernel) (pc' := 23) (L' := [(0, .ref 0), (1, .int i)]) (st' := [.int (M 1 (i.toNatClampNeg))]) rfl ?_
      exact mz_iret C E (by decide +kernel) (by unfold mz_rg; rw [if_neg h1, if_neg h2]) rfl
set_option maxHeartbeats 4000000 in
theorem f_Row_set_0 (l : Launch) (D : va_G) (cA : ClassId) (ρ : Nat → Nat) (n : Nat) (hn : n < 2 ^ 31) (hI : mz_I ρ (mz_row n)) (M : mz_Mem) (i v : Int32) : mz_M l D vwCl cA ρ (mz_row n) yX6_set cX6_set 3 none 0 0 [.ref 0, .int i, .int v] M none (mz_s M 1 (mz_rs n (M 1) i v)) := by
  refine mz_in0 (by decide +kernel) (Nat.le_of_ble_eq_true rfl) (fun Γ C E => ?_)
  have E' := (⟨_, _, _, E⟩ : ∃ Qc mc ms, mz_E Γ Qc mc ms (mz_A ρ (mz_row n)))
  refine mz_go FLX6 KLX6 C [(0, .iload_n 1)] (by decide +kernel) (pc' := 1) (L' := [(0, .ref 0), (1, .int i), (2, .int v)]) (st' := [.int i]) rfl ?_
  refine mz_zlt (off := 19) (tgt := 20) C (by decide +kernel) (by decide) (fun h1 => ?_) (fun h1 => ?_)
  · exact mz_vret C E (by decide +kernel) (by unfold mz_rs; rw [if_pos h1, mz_s_id])
  · refine mz_go FLX6 KLX6 C [(4, .iload_n 1), (5, .aload_n 0), (6, .getfield 9), (9, .arraylength)] (by decide +kernel) (pc' := 10) (L' := [(0, .ref 0), (1, .int i), (2, .int v)]) (st' := [.int (Int32.ofNat n), .int i]) rfl ?_
    refine mz_ige (off := 10) (tgt := 20) C (by decide +kernel) (by decide) (fun h2 => ?_) (fun h2 => ?_)
    · exact mz_vret C E (by decide +kernel) (by unfold mz_rs; rw [if_neg h1, if_pos h2, mz_s_id])
    · refine mz_go FLX6 KLX6 C [(13, .aload_n 0), (14, .getfield 9), (17, .iload_n 1), (18, .iload_n 2)] (by decide +kernel) (pc' := 19) (L' := [(0, .ref 0), (1, .int i), (2, .int v)]) (st' := [.int v, .int i, .ref 1]) rfl ?_
      refine mz_ist (id := 1) (N := n) C E' hI rfl (mz_vin hn h1 h2) (by decide +kernel) ?_
      exact mz_vret C E (by decide +kernel) (by unfold mz_rs; rw [if_neg h1, if_neg h2])
set_option maxHeartbeats 4000000 in
theorem f_Row_add_0 (l : Launch) (D : va_G) (cA : ClassId) (ρ : Nat → Nat) (n : Nat) (hn : n < 2 ^ 31) (hI : mz_I ρ (mz_row n)) (M : mz_Mem) (i v : Int32) : mz_M l D vwCl cA ρ (mz_row n) yX6_add cX6_add 3 none 0 0 [.ref 0, .int i, .int v] M none (mz_s M 1 (mz_ra n (M 1) i v)) := by
  refine mz_in0 (by decide +kernel) (Nat.le_of_ble_eq_true rfl) (fun Γ C E => ?_)
  have E' := (⟨_, _, _, E⟩ : ∃ Qc mc ms, mz_E Γ Qc mc ms (mz_A ρ (mz_row n)))
  refine mz_go FLX6 KLX6 C [(0, .iload_n 1)] (by decide +kernel) (pc' := 1) (L' := [(0, .ref 0), (1, .int i), (2, .int v)]) (st' := [.int i]) rfl ?_
  refine mz_zlt (off := 22) (tgt := 23) C (by decide +kernel) (by decide) (fun h1 => ?_) (fun h1 => ?_)
  · exact mz_vret C E (by decide +kernel) (by unfold mz_ra; rw [if_pos h1, mz_s_id])
  · refine mz_go FLX6 KLX6 C [(4, .iload_n 1), (5, .aload_n 0), (6, .getfield 9), (9, .arraylength)] (by decide +kernel) (pc' := 10) (L' := [(0, .ref 0), (1, .int i), (2, .int v)]) (st' := [.int (Int32.ofNat n), .int i]) rfl ?_
    refine mz_ige (off := 13) (tgt := 23) C (by decide +kernel) (by decide) (fun h2 => ?_) (fun h2 => ?_)
    · exact mz_vret C E (by decide +kernel) (by unfold mz_ra; rw [if_neg h1, if_pos h2, mz_s_id])
    · refine mz_go FLX6 KLX6 C [(13, .aload_n 0), (14, .getfield 9), (17, .iload_n 1)] (by decide +kernel) (pc' := 18) (L' := [(0, .ref 0), (1, .int i), (2, .int v)]) (st' := [.int i, .ref 1]) rfl ?_
      refine mz_dup2 C (by decide +kernel) rfl rfl ?_
      refine mz_ild (id := 1) (N := n) C rfl (mz_vin hn h1 h2) (by decide +kernel) ?_
      refine mz_go FLX6 KLX6 C [(20, .iload_n 2), (21, .iadd)] (by decide +kernel) (pc' := 22) (L' := [(0, .ref 0), (1, .int i), (2, .int v)]) (st' := [.int ((M 1 (i.toNatClampNeg)) + v), .int i, .ref 1]) rfl ?_
      refine mz_ist (id := 1) (N := n) C E' hI rfl (mz_vin hn h1 h2) (by decide +kernel) ?_
      exact mz_vret C E (by decide +kernel) (by unfold mz_ra; rw [if_neg h1, if_neg h2])
set_option maxHeartbeats 4000000 in
theorem f_Row_sum_0 (l : Launch) (D : va_G) (cA : ClassId) (ρ : Nat → Nat) (n : Nat) (hn : n < 2 ^ 31) (M : mz_Mem) : mz_M l D vwCl cA ρ (mz_row n) yX6_sum cX6_sum 3 (some .int) 0 0 [.ref 0] M (some (.int (mz_sum n (M 1)))) M := by
  refine mz_in0 (by decide +kernel) (Nat.le_of_ble_eq_true rfl) (fun Γ C E => ?_)
  have E' := (⟨_, _, _, E⟩ : ∃ Qc mc ms, mz_E Γ Qc mc ms (mz_A ρ (mz_row n)))
  refine mz_go FLX6 KLX6 C [(0, .iconst 0), (1, .istore_n 1), (2, .iconst 0), (3, .istore_n 2)] (by decide +kernel) (pc' := 4) (L' := [(2, .int 0), (1, .int 0), (0, .ref 0)]) (st' := []) rfl ?_
  refine mz_sub (L' := [(0, .ref 0), (1, .int 0), (2, .int 0)]) (by simp) ?_
  refine mz_loop (Int32.ofNat n) (fun i a => a + M 1 i.toNatClampNeg) (fun i a => mz_W Γ ρ 3 0 0 (mz_H D vwCl cA ρ (mz_row n) M) 4 [(0, .ref 0), (1, .int a), (2, .int i)] []) 0 (fun i a hi hx hb => ?_)
  refine mz_go FLX6 KLX6 C [(4, .iload_n 2), (5, .aload_n 0), (6, .getfield 9), (9, .arraylength)] (by decide +kernel) (pc' := 10) (L' := [(0, .ref 0), (1, .int a), (2, .int i)]) (st' := [.int (Int32.ofNat n), .int i]) rfl ?_
  refine mz_ige (off := 18) (tgt := 28) C (by decide +kernel) (by decide) (fun h1 => ?_) (fun h1 => ?_)
  · refine mz_go FLX6 KLX6 C [(28, .iload_n 1)] (by decide +kernel) (pc' := 29) (L' := [(0, .ref 0), (1, .int a), (2, .int i)]) (st' := [.int a]) rfl ?_
    exact mz_iret C E (by decide +kernel) (hx h1) rfl
  · refine mz_go FLX6 KLX6 C [(13, .iload_n 1), (14, .aload_n 0), (15, .getfield 9), (18, .iload_n 2)] (by decide +kernel) (pc' := 19) (L' := [(0, .ref 0), (1, .int a), (2, .int i)]) (st' := [.int i, .ref 1, .int a]) rfl ?_
    refine mz_ild (id := 1) (N := n) C rfl (mz_vin' hn hi h1) (by decide +kernel) ?_
    refine mz_go FLX6 KLX6 C [(20, .iadd), (21, .istore_n 1), (22, .iinc 2 1), (25, .goto (-21))] (by decide +kernel) (pc' := 4) (L' := [(2, .int (i + 1)), (1, .int (a + (M 1 (i.toNatClampNeg)))), (0, .ref 0)]) (st' := []) rfl ?_
    exact mz_sub (by simp) (hb h1)

def mz_arr (n : Nat) : List (Option mz_Sh) := [some (.inl n)]
def mz_FLn : List (Nat × Nat × Nat) := []
def mz_fil (f : Nat → Int32) (k : Nat) (v : Int32) : Nat → Int32 := fun j => if j < k then v else f j
theorem mz_fil_upd (f : Nat → Int32) (k : Nat) (v : Int32) : upd (mz_fil f k v) k v = mz_fil f (k + 1) v := by
  funext j
  unfold upd mz_fil
  by_cases h : j = k
  · subst h; simp
  · rw [if_neg h]
    by_cases h2 : j < k
    · rw [if_pos h2, if_pos (by omega)]
    · rw [if_neg h2, if_neg (by omega)]
def flJ7 : List (Nat × Nat × Nat) := []
def klJ7 : List (Nat × Int64) := []
set_option maxHeartbeats 4000000 in
theorem f_fill_0 (l : Launch) (D : va_G) (cA : ClassId) (ρ : Nat → Nat) (n : Nat) (hn : n < 2 ^ 31) (hI : mz_I ρ (mz_arr n)) (M : mz_Mem) (v : Int32) : mz_M l D vwCl cA ρ (mz_arr n) yJ7_fill_53178 cJ7_fill_53178 4 none 0 0 [.ref 0, .int v] M none (mz_s M 0 (mz_fil (M 0) n v)) := by
  refine mz_in0 (by decide +kernel) (Nat.le_of_ble_eq_true rfl) (fun Γ C E => ?_)
  have E' := (⟨_, _, _, E⟩ : ∃ Qc mc ms, mz_E Γ Qc mc ms (mz_A ρ (mz_arr n)))
  refine mz_go FLJ7 KLJ7 C [(0, .iconst 0), (1, .istore_n 2), (2, .aload_n 0), (3, .arraylength), (4, .istore_n 3)] (by decide +kernel) (pc' := 5) (L' := [(3, .int (Int32.ofNat n)), (2, .int 0), (0, .ref 0), (1, .int v)]) (st' := []) rfl ?_
  refine mz_sub (L' := [(0, .ref 0), (1, .int v), (2, .int (nI 0)), (3, .int (Int32.ofNat n))]) (by simp [nI]) ?_
  have key : ∀ r j : Nat, j + r = n → mz_W Γ ρ 4 0 0 (mz_H D vwCl cA ρ (mz_arr n) (mz_s M 0 (mz_fil (M 0) j v))) 5 [(0, .ref 0), (1, .int v), (2, .int (nI j)), (3, .int (Int32.ofNat n))] [] := by
    intro r
    induction r with
    | zero =>
      intro j hj
      refine mz_go FLJ7 KLJ7 C [(5, .iload_n 2), (6, .iload_n 3)] (by decide +kernel) (pc' := 7) (L' := [(0, .ref 0), (1, .int v), (2, .int (nI j)), (3, .int (Int32.ofNat n))]) (st' := [.int (Int32.ofNat n), .int (nI j)]) rfl ?_
      refine mz_ige (off := 13) (tgt := 20) C (by decide +kernel) (by decide) (fun h1 => ?_) (fun h1 => absurd (show Int32.ofNat n ≤ nI j from nI_le (by omega) (by omega)) h1)
      exact mz_vret C E (by decide +kernel) (by rw [show j = n by omega])
    | succ r ih =>
      intro j hj
      refine mz_go FLJ7 KLJ7 C [(5, .iload_n 2), (6, .iload_n 3)] (by decide +kernel) (pc' := 7) (L' := [(0, .ref 0), (1, .int v), (2, .int (nI j)), (3, .int (Int32.ofNat n))]) (st' := [.int (Int32.ofNat n), .int (nI j)]) rfl ?_
      refine mz_ige (off := 13) (tgt := 20) C (by decide +kernel) (by decide) (fun h1 => absurd h1 (nI_ge (by omega) (by omega))) (fun h1 => ?_)
      refine mz_go FLJ7 KLJ7 C [(10, .aload_n 0), (11, .iload_n 2), (12, .iload_n 1)] (by decide +kernel) (pc' := 13) (L' := [(0, .ref 0), (1, .int v), (2, .int (nI j)), (3, .int (Int32.ofNat n))]) (st' := [.int v, .int (nI j), .ref 0]) rfl ?_
      refine mz_ist (id := 0) (N := n) C E' hI rfl (vp_in_nI (by omega) hn) (by decide +kernel) ?_
      refine mz_go FLJ7 KLJ7 C [(14, .iinc 2 1), (17, .goto (-12))] (by decide +kernel) (pc' := 5) (L' := [(2, .int ((nI j) + 1)), (0, .ref 0), (1, .int v), (3, .int (Int32.ofNat n))]) (st' := []) rfl ?_
      have ih := ih (j + 1) (by omega)
      rw [mz_s_s, mz_s_eq, nI_clamp (by omega), mz_fil_upd]
      rw [← nI_1] at ih
      exact mz_sub (by simp) ih
  have h0 : mz_s M 0 (mz_fil (M 0) 0 v) = M := by
    have : mz_fil (M 0) 0 v = M 0 := by funext j; simp [mz_fil]
    rw [this, mz_s_id]
  have k0 := key n 0 (by omega)
  rw [h0] at k0
  exact k0
end
section
theorem mz_arrV_ext (cI : ClassId) (N : Nat) {f g : Nat → Value} (h : ∀ j, j < N → f j = g j) : arrV cI N f = arrV cI N g := by
  unfold arrV
  congr 2
  funext j
  exact h j.val j.isLt
theorem mz_H_ext {D : va_G} {cl : List vw_C} {cA : ClassId} {ρ : Nat → Nat} {lay : List (Option mz_Sh)} {M M' : mz_Mem} {H : Heap} (h1 : ∀ k n : Nat, lay[k]? = some (some (.inl n)) → ∀ j, j < n → M k j = M' k j) (h2 : ∀ (k ci : Nat) (fs : List (Option (Option Nat))), lay[k]? = some (some (.inr (ci, fs))) → ∀ j, j < fs.length → M k j = M' k j) (h : mz_H D cl cA ρ lay M H) : mz_H D cl cA ρ lay M' H := by
  intro k sh hk
  have h0 := h k sh hk
  cases sh with
  | inl n =>
    have e : mz_ent cA ρ M k (.inl n) = .inl (cA, n, .inl (M k)) := rfl
    show H[ρ k]? = some (vp_cell cA (n, .inl (M' k)))
    have h3 : H[ρ k]? = some (vp_cell cA (n, .inl (M k))) := h0
    rw [h3, vp_cell_i, vp_cell_i, mz_arrV_ext cA n (fun j hj => by rw [h1 k n hk j hj])]
  | inr x =>
    have e : mz_ent cA ρ M' k (.inr x) = mz_ent cA ρ M k (.inr x) := by
      simp only [mz_ent]
      congr 3
      apply List.ext_getElem?
      intro i
      rw [mz_fs_at, mz_fs_at]
      cases hi : x.2[i]? with
      | none => rfl
      | some q =>
        have hl := (List.getElem?_eq_some_iff.mp hi).1
        cases q with
        | none => simp [mz_fv, h2 k x.1 x.2 hk i hl]
        | some q => cases q <;> rfl
    rw [e]
    exact h0
/-- System.arraycopy over numbered cells, whole rows -/
theorem mz_copy {Γ : mz_G} {l : Launch} {own : String} {cc : ByteArray} {nL k n : Nat} {ret : Option FieldType} {D : va_G} {cl : List vw_C} {cA : ClassId} {rm : Room} {ρ : Nat → Nat} {lay : List (Option mz_Sh)} {M : mz_Mem} {pc : Nat} {L : List (Nat × Value)} {st : List Value} {src dst N index : Nat} {nn : Int32}
    (C : mz_C Γ l own cc nL ret D cl [(cA, .int)] rm) (E : ∃ Qc mc ms, mz_E Γ Qc mc ms (mz_A ρ lay)) (hI : mz_I ρ lay) (hs : lay[src]? = some (some (.inl N))) (hdst : lay[dst]? = some (some (.inl N))) (hnn : nn = nI N) (hN : N < 2 ^ 31)
    (wl : Cond.methodLink own index arraycopyName ∈ mz_ws) (wn : Cond.native arraycopyName ∈ mz_ws) (wst : Cond.static arraycopyName ∈ mz_ws) (wi : Cond.initialized "java/lang/System" ∈ mz_ws)
    (hf : 1 ≤ rm.frames) (hlo : (st.map fun v => v.category).sum + (nativeFrameWords "java/lang/System" "arraycopy" 5 + 11) ≤ rm.locals) (hd : decode cc pc = .ok (.invokestatic index, 3))
    (kk : mz_W Γ ρ nL k n (mz_H D cl cA ρ lay (mz_s M dst (M src))) (pc + 3) L st) : mz_W Γ ρ nL k n (mz_H D cl cA ρ lay M) pc L (.int nn :: .int 0 :: .ref dst :: .int 0 :: .ref src :: st) := by
  obtain ⟨p, l', e, R, s, m, args, below, meth, c, H0, A, Q⟩ := Γ
  obtain ⟨-, hx, hb, hml, hown, hts, hK, -, -, rfl⟩ := C
  obtain ⟨Qc, mc, ms, -, -, rfl⟩ := E
  subst hnn
  refine fun H ls locs hP hS hl => ?_
  intro T hT X
  have hc0 : H[ρ src]? = some (vp_cell cA (N, .inl (M src))) := hP src _ hs
  have hc1 : H[ρ dst]? = some (vp_cell cA (N, .inl (M dst))) := hP dst _ hdst
  have hcl : (nI N).toNatClampNeg = N := nI_clamp hN
  have hNi : (nI N).toInt = (N : Int) := nI_toInt hN
  obtain ⟨-, k0, hk0, cm0, hkk0⟩ := (hK.1.2 0 _ rfl).1 N (fun j => .int (M src j))
  obtain ⟨-, k1, hk1, cm1, hkk1⟩ := (hK.1.2 0 _ rfl).1 N (fun j => .int (M dst j))
  obtain ⟨vm', X', step⟩ := X.arraycopy hx hown (hts _ wl) (hts _ wn) (hts _ wst) (hts _ wi) (src := ρ src) (dst := ρ dst) (cs := vp_cell cA (N, .inl (M src))) (cd := vp_cell cA (N, .inl (M dst))) (srcPos := 0) (destPos := 0) (n := nI N) (by rw [hT]; exact hc0) (by rw [hT]; exact hc1)
    (fun _ h => by cases h) (fun _ h => by cases h) (fun h => by cases h) (fun h => by cases h) hk0 hk1 hkk0 hkk1 (by simp [refKind]) (by decide) (by decide) (nI_pos hN)
    (by rw [hNi]; show ¬ _ > ((arrV cA N (fun j => .int (M src j))).slots.size : Int); rw [arrV_size]; simp)
    (by rw [hNi]; show ¬ _ > ((arrV cA N (fun j => .int (M dst j))).slots.size : Int); rw [arrV_size]; simp)
    (fun vm₁ _ i hi => by
      rw [hcl] at hi
      have e : (vp_cell cA (N, .inl (M src))).slots.getD ((0 : Int32).toNatClampNeg + i) .null = .int (M src ((0 : Int32).toNatClampNeg + i)) := by
        show (arrV cA N (fun j => .int (M src j))).slots.getD _ _ = _
        rw [Array.getD_eq_getD_getElem?, arrV_read _ _ (by show 0 + i < N; omega)]
        rfl
      refine ⟨?_, ?_⟩
      · rw [e]; rfl
      · rw [e]; exact trivial)
    (g := F0 m pc ls ((Value.int (nI N) :: .int 0 :: .ref dst :: .int 0 :: .ref src :: st).map (mz_e ρ))) rfl (by rw [hml]; exact hl.1) (rest := st.map (mz_e ρ)) rfl (by rw [hb]; exact hd) hf (by show 2 * 0 + _ + _ ≤ _; rw [mz_sumcat]; omega)
  have e1 : copied (vp_cell cA (N, .inl (M src))) (vp_cell cA (N, .inl (M dst))) 0 0 (nI N) = vp_cell cA (N, .inl (va_cpy (M src) (M dst) 0 0 N)) := by
    have := va_copied (fun z => Value.int z) cA cA (n0 := N) (n1 := N) (sp := 0) (dp := 0) (n := N) (M src) (M dst) (by omega)
    unfold copied
    rw [hcl]
    exact this
  have e2 : vp_cell cA (N, .inl (va_cpy (M src) (M dst) 0 0 N)) = vp_cell cA (N, .inl (M src)) := by
    rw [vp_cell_i, vp_cell_i]
    exact mz_arrV_ext cA N (fun j hj => by simp [va_cpy, hj])
  rw [e1, e2] at X' step
  have hlt : ρ dst < H.size := (Array.getElem?_eq_some_iff.mp hc1).1
  have hheap : ((T.setVm vm').setCell (ρ dst) (vp_cell cA (N, .inl (M src)))).heap = H.setIfInBounds (ρ dst) (vp_cell cA (N, .inl (M src))) := by rw [← hT]; rfl
  have oq : ∀ q : Nat, q ≠ ρ dst → (H.setIfInBounds (ρ dst) (vp_cell cA (N, .inl (M src))))[q]? = H[q]? := fun q hq => by simp [Array.getElem?_setIfInBounds, Ne.symm hq]
  obtain ⟨t, a1, b1⟩ := kk _ ls _ (mz_H_put hI hP hdst (by
      show (H.setIfInBounds (ρ dst) _)[ρ dst]? = some (vp_cell cA (N, .inl (mz_s M dst (M src) dst)))
      rw [mz_s_eq]
      simp [Array.getElem?_setIfInBounds, hlt]) oq) ⟨by simp; exact hS.1, fun q g1 g2 => by
        rw [oq q (fun e => g2 (by rw [e]; exact ⟨dst, _, hdst, rfl⟩))]
        exact hS.2.1 q g1 g2, fun q hq => by
        rcases List.mem_append.mp hq with h | h
        · exact hS.2.2 q h
        · obtain ⟨z, -, hz⟩ := List.mem_map.mp h
          rw [← hz]
          exact ⟨dst, _, hdst, rfl⟩⟩ hl _ hheap X'
  exact ⟨t, step t a1, b1⟩
end
section
theorem mz_row_ne {lay : List (Option mz_Sh)} {r a n : Nat} (hr : lay[r]? = some (some (.inr (6, [some (some a)])))) (ha : lay[a]? = some (some (.inl n))) : r ≠ a := fun e => by subst e; rw [hr] at ha; cases ha
/-- a row's contract that reads, over any cells -/
theorem mz_rowR {l : Launch} {D : va_G} {cA : ClassId} {ρ : Nat → Nat} {lay : List (Option mz_Sh)} {r a n nL fr lo : Nat} {y : MethodName} {cc : ByteArray} {ret : Option FieldType} {As : List Value} {v : Option Value} {M : mz_Mem} (hI : mz_I ρ lay) (hr : lay[r]? = some (some (.inr (6, [some (some a)])))) (ha : lay[a]? = some (some (.inl n)))
    (F : mz_M l D vwCl cA (fun k => ρ (if k = 0 then r else a)) (mz_row n) y cc nL ret fr lo As (fun k => M (if k = 0 then r else a)) v (fun k => M (if k = 0 then r else a))) {As' : List Value} {v' : Option Value} (hA : As' = As.map (mz_e (fun k => if k = 0 then r else a))) (hv : v' = v.map (mz_e (fun k => if k = 0 then r else a))) : mz_M l D vwCl cA ρ lay y cc nL ret fr lo As' M v' M :=
  mz_lift F (mz_row_sub hr ha) hI (fun _ _ _ => rfl) (fun _ _ _ => rfl) (fun _ _ => rfl) hA hv
/-- a row's contract that writes -/
theorem mz_rowW {l : Launch} {D : va_G} {cA : ClassId} {ρ : Nat → Nat} {lay : List (Option mz_Sh)} {r a n nL fr lo : Nat} {y : MethodName} {cc : ByteArray} {ret : Option FieldType} {As : List Value} {v : Option Value} {M : mz_Mem} {g : Nat → Int32} (hI : mz_I ρ lay) (hr : lay[r]? = some (some (.inr (6, [some (some a)])))) (ha : lay[a]? = some (some (.inl n)))
    (F : mz_M l D vwCl cA (fun k => ρ (if k = 0 then r else a)) (mz_row n) y cc nL ret fr lo As (fun k => M (if k = 0 then r else a)) v (mz_s (fun k => M (if k = 0 then r else a)) 1 g)) {As' : List Value} {v' : Option Value} (hA : As' = As.map (mz_e (fun k => if k = 0 then r else a))) (hv : v' = v.map (mz_e (fun k => if k = 0 then r else a))) : mz_M l D vwCl cA ρ lay y cc nL ret fr lo As' M v' (mz_s M a g) := by
  refine mz_lift F (mz_row_sub hr ha) hI (fun _ _ _ => rfl) (fun k sh hk => ?_) (fun b hb => ?_) hA hv
  · have hk2 : k < 2 := (List.getElem?_eq_some_iff.mp hk).1
    rcases (show k = 0 ∨ k = 1 by omega) with rfl | rfl
    · rw [mz_s_ne (by decide)]
      show M r = mz_s M a g r
      rw [mz_s_ne (mz_row_ne hr ha)]
    · rw [mz_s_eq]
      show g = mz_s M a g a
      rw [mz_s_eq]
  · exact mz_s_ne (fun e => hb 1 (.inl n) rfl (by rw [e]; rfl))
theorem f_Row_get (l : Launch) (D : va_G) (cA : ClassId) (ρ : Nat → Nat) {lay : List (Option mz_Sh)} (hI : mz_I ρ lay) {r a n : Nat} (hr : lay[r]? = some (some (.inr (6, [some (some a)])))) (ha : lay[a]? = some (some (.inl n))) (hn : n < 2 ^ 31) (M : mz_Mem) (i : Int32) :
    mz_M l D vwCl cA ρ lay yX6_get cX6_get 2 (some .int) 0 0 [.ref r, .int i] M (some (.int (mz_rg n (M a) i))) M :=
  mz_rowR hI hr ha (f_Row_get_0 l D cA _ n hn _ i) rfl rfl
theorem f_Row_sum (l : Launch) (D : va_G) (cA : ClassId) (ρ : Nat → Nat) {lay : List (Option mz_Sh)} (hI : mz_I ρ lay) {r a n : Nat} (hr : lay[r]? = some (some (.inr (6, [some (some a)])))) (ha : lay[a]? = some (some (.inl n))) (hn : n < 2 ^ 31) (M : mz_Mem) :
    mz_M l D vwCl cA ρ lay yX6_sum cX6_sum 3 (some .int) 0 0 [.ref r] M (some (.int (mz_sum n (M a)))) M :=
  mz_rowR hI hr ha (f_Row_sum_0 l D cA _ n hn _) rfl rfl
theorem f_Row_set (l : Launch) (D : va_G) (cA : ClassId) (ρ : Nat → Nat) {lay : List (Option mz_Sh)} (hI : mz_I ρ lay) {r a n : Nat} (hr : lay[r]? = some (some (.inr (6, [some (some a)])))) (ha : lay[a]? = some (some (.inl n))) (hn : n < 2 ^ 31) (M : mz_Mem) (i v : Int32) :
    mz_M l D vwCl cA ρ lay yX6_set cX6_set 3 none 0 0 [.ref r, .int i, .int v] M none (mz_s M a (mz_rs n (M a) i v)) :=
  mz_rowW hI hr ha (f_Row_set_0 l D cA _ n hn (mz_I_row hI hr ha) _ i v) rfl rfl
theorem f_Row_add (l : Launch) (D : va_G) (cA : ClassId) (ρ : Nat → Nat) {lay : List (Option mz_Sh)} (hI : mz_I ρ lay) {r a n : Nat} (hr : lay[r]? = some (some (.inr (6, [some (some a)])))) (ha : lay[a]? = some (some (.inl n))) (hn : n < 2 ^ 31) (M : mz_Mem) (i v : Int32) :
    mz_M l D vwCl cA ρ lay yX6_add cX6_add 3 none 0 0 [.ref r, .int i, .int v] M none (mz_s M a (mz_ra n (M a) i v)) :=
  mz_rowW hI hr ha (f_Row_add_0 l D cA _ n hn (mz_I_row hI hr ha) _ i v) rfl rfl
theorem mz_I_arr {ρ : Nat → Nat} {n : Nat} : mz_I ρ (mz_arr n) := by
  intro i j a b hi hj _
  have h1 : i < 1 := (List.getElem?_eq_some_iff.mp hi).1
  have h2 : j < 1 := (List.getElem?_eq_some_iff.mp hj).1
  omega
theorem f_fill (l : Launch) (D : va_G) (cA : ClassId) (ρ : Nat → Nat) {lay : List (Option mz_Sh)} (hI : mz_I ρ lay) {a n : Nat} (ha : lay[a]? = some (some (.inl n))) (hn : n < 2 ^ 31) (M : mz_Mem) (v : Int32) :
    mz_M l D vwCl cA ρ lay yJ7_fill_53178 cJ7_fill_53178 4 none 0 0 [.ref a, .int v] M none (mz_s M a (mz_fil (M a) n v)) := by
  have one : ∀ (k : Nat) (sh : mz_Sh), (mz_arr n)[k]? = some (some sh) → k = 0 ∧ sh = .inl n := by
    intro k sh hk
    have h1 : k < 1 := (List.getElem?_eq_some_iff.mp hk).1
    have h0 : k = 0 := by omega
    subst h0
    cases hk
    exact ⟨rfl, rfl⟩
  refine mz_lift (ι := fun _ => a) (f_fill_0 l D cA _ n hn mz_I_arr (fun _ => M a) v) (fun k sh hk => ?_) hI (fun _ _ _ => rfl) (fun k sh hk => ?_) (fun b hb => ?_) rfl rfl
  · obtain ⟨-, rfl⟩ := one k sh hk
    exact ha
  · obtain ⟨rfl, -⟩ := one k sh hk
    rw [mz_s_eq, mz_s_eq]
  · exact mz_s_ne (fun e => hb 0 (.inl n) rfl e)
def mz_min (x y : Int32) : Int32 := if y < x then y else x
theorem mz_mmin {Γ : mz_G} {l : Launch} {own : String} {cc : ByteArray} {nL k n : Nat} {ret : Option FieldType} {D : va_G} {cl : List vw_C} {tys : List (ClassId × FieldType)} {rm : Room} {ρ : Nat → Nat} {P : Heap → Prop} {pc index : Nat} {L : List (Nat × Value)} {st : List Value} {x y : Int32} (C : mz_C Γ l own cc nL ret D cl tys rm)
    (wl : Cond.methodLink own index Lib.Math.min.name ∈ mz_ws) (ws : Cond.static Lib.Math.min.name ∈ mz_ws) (wi : Cond.initialized "java/lang/Math" ∈ mz_ws) (wc : Cond.code Lib.Math.min.name Lib.Math.min.code 2 (some .int) ∈ mz_ws)
    (hf : 1 ≤ rm.frames) (hlo : (st.map fun v => v.category).sum + 13 ≤ rm.locals) (hk : k ≤ rm.cells ∧ n ≤ rm.slots) (hd : decode cc pc = .ok (.invokestatic index, 3))
    (kk : mz_W Γ ρ nL k n P (pc + 3) L (.int (mz_min x y) :: st)) : mz_W Γ ρ nL k n P pc L (.int y :: .int x :: st) := by
  obtain ⟨p, l', e, R, s, m, args, below, meth, c, H0, A, Q⟩ := Γ
  obtain ⟨-, hx, hb, hml, hown, hts, hK, -, -, rfl⟩ := C
  exact fun H ls locs hP hS hl => va_mmin hx hb (by rw [hml, hl.1]) hown (hts _ wl) (hts _ ws) (hts _ wi) (hts _ wc) hf (by rw [mz_sumcat]; exact hlo) hk.1 hk.2 hd (kk H ls locs hP hS hl)
set_option maxHeartbeats 4000000 in
theorem f_Row_fill_0 (l : Launch) (D : va_G) (cA : ClassId) (ρ : Nat → Nat) (n : Nat) (hn : n < 2 ^ 31) (hI : mz_I ρ (mz_row n)) (M : mz_Mem) (v : Int32) : mz_M l D vwCl cA ρ (mz_row n) yX6_fill cX6_fill 2 none 1 23 [.ref 0, .int v] M none (mz_s M 1 (fun _ => v)) := by
  refine mz_in0 (by decide +kernel) (Nat.le_of_ble_eq_true rfl) (fun Γ C E => ?_)
  have E' := (⟨_, _, _, E⟩ : ∃ Qc mc ms, mz_E Γ Qc mc ms (mz_A ρ (mz_row n)))
  refine mz_go FLX6 KLX6 C [(0, .aload_n 0), (1, .getfield 9), (4, .iload_n 1)] (by decide +kernel) (pc' := 5) (L' := [(0, .ref 0), (1, .int v)]) (st' := [.int v, .ref 1]) rfl ?_
  refine mz_callS (As := [.ref 1, .int v]) (rest := []) C E' (f_fill l D cA ρ hI (a := 1) rfl hn M v) hs_J7_fill_53178 wl_X6_15 rfl ⟨Nat.le_of_ble_eq_true rfl, Nat.le_of_ble_eq_true rfl⟩ ⟨Nat.le_refl _, Nat.le_refl _⟩ (Nat.le_of_ble_eq_true rfl) (by decide +kernel) ?_ rfl
  refine mz_mono (fun H h => mz_H_ext (M' := mz_s M 1 (fun _ => v)) (fun k n2 hk j hj => ?_) (fun k ci fs hk j hj => ?_) h) ?_
  · by_cases e : k = 1
    · subst e; cases hk; rw [mz_s_eq, mz_s_eq]; simp [mz_fil, hj]
    · rw [mz_s_ne e, mz_s_ne e]
  · have e : k ≠ 1 := fun e => by subst e; cases hk
    rw [mz_s_ne e, mz_s_ne e]
  exact mz_vret C E (by decide +kernel) rfl
theorem f_Row_fill (l : Launch) (D : va_G) (cA : ClassId) (ρ : Nat → Nat) {lay : List (Option mz_Sh)} (hI : mz_I ρ lay) {r a n : Nat} (hr : lay[r]? = some (some (.inr (6, [some (some a)])))) (ha : lay[a]? = some (some (.inl n))) (hn : n < 2 ^ 31) (M : mz_Mem) (v : Int32) :
    mz_M l D vwCl cA ρ lay yX6_fill cX6_fill 2 none 1 23 [.ref r, .int v] M none (mz_s M a (fun _ => v)) :=
  mz_rowW hI hr ha (f_Row_fill_0 l D cA _ n hn (mz_I_row hI hr ha) _ v) rfl rfl
def mz_row2 (n : Nat) : List (Option mz_Sh) := [some (.inr (6, [some (some 1)])), some (.inl n), some (.inr (6, [some (some 3)])), some (.inl n)]
set_option maxHeartbeats 4000000 in
theorem f_Row_copyFrom_0 (l : Launch) (D : va_G) (cA : ClassId) (ρ : Nat → Nat) (n : Nat) (hn : n < 2 ^ 31) (hI : mz_I ρ (mz_row2 n)) (M : mz_Mem) : mz_M l D vwCl cA ρ (mz_row2 n) yX6_copyFrom cX6_copyFrom 2 none 1 30 [.ref 0, .ref 2] M none (mz_s M 1 (M 3)) := by
  refine mz_in0 (by decide +kernel) (Nat.le_of_ble_eq_true rfl) (fun Γ C E => ?_)
  have E' := (⟨_, _, _, E⟩ : ∃ Qc mc ms, mz_E Γ Qc mc ms (mz_A ρ (mz_row2 n)))
  refine mz_go FLX6 KLX6 C [(0, .aload_n 1), (1, .getfield 9), (4, .iconst 0), (5, .aload_n 0), (6, .getfield 9), (9, .iconst 0), (10, .aload_n 1), (11, .getfield 9), (14, .arraylength), (15, .aload_n 0), (16, .getfield 9), (19, .arraylength)] (by decide +kernel) (pc' := 20) (L' := [(0, .ref 0), (1, .ref 2)]) (st' := [.int (Int32.ofNat n), .int (Int32.ofNat n), .int 0, .ref 1, .int 0, .ref 3]) rfl ?_
  refine mz_mmin (index := 21) C (mz_in 706 (by decide +kernel) (by decide +kernel)) (mz_in 707 (by decide +kernel) (by decide +kernel)) (mz_in 77 (by decide +kernel) (by decide +kernel)) (mz_in 708 (by decide +kernel) (by decide +kernel)) (Nat.le_of_ble_eq_true rfl) (Nat.le_of_ble_eq_true rfl) ⟨Nat.le_refl _, Nat.le_refl _⟩ (by decide +kernel) ?_
  refine mz_copy (src := 3) (dst := 1) (N := n) C E' hI rfl rfl (by unfold mz_min; split <;> rfl) hn (index := 27) (mz_in 709 (by decide +kernel) (by decide +kernel)) (mz_in 711 (by decide +kernel) (by decide +kernel)) (mz_in 710 (by decide +kernel) (by decide +kernel)) (mz_in 79 (by decide +kernel) (by decide +kernel)) (Nat.le_of_ble_eq_true rfl) (Nat.le_of_ble_eq_true (by decide +kernel)) (by decide +kernel) ?_
  exact mz_vret C E (by decide +kernel) rfl
theorem f_Row_copyFrom (l : Launch) (D : va_G) (cA : ClassId) (ρ : Nat → Nat) {lay : List (Option mz_Sh)} (hI : mz_I ρ lay) {r a r2 a2 n : Nat} (hr : lay[r]? = some (some (.inr (6, [some (some a)])))) (ha : lay[a]? = some (some (.inl n))) (hr2 : lay[r2]? = some (some (.inr (6, [some (some a2)])))) (ha2 : lay[a2]? = some (some (.inl n))) (hne : r ≠ r2) (hne2 : a ≠ a2) (hn : n < 2 ^ 31) (M : mz_Mem) :
    mz_M l D vwCl cA ρ lay yX6_copyFrom cX6_copyFrom 2 none 1 30 [.ref r, .ref r2] M none (mz_s M a (M a2)) := by
  have all : ∀ (k : Nat) (sh : mz_Sh), (mz_row2 n)[k]? = some (some sh) → (k = 0 ∧ sh = .inr (6, [some (some 1)])) ∨ (k = 1 ∧ sh = .inl n) ∨ (k = 2 ∧ sh = .inr (6, [some (some 3)])) ∨ (k = 3 ∧ sh = .inl n) := by
    intro k sh hk
    have h1 : k < 4 := (List.getElem?_eq_some_iff.mp hk).1
    rcases (show k = 0 ∨ k = 1 ∨ k = 2 ∨ k = 3 by omega) with rfl | rfl | rfl | rfl <;> cases hk <;> simp
  have ι0 : ∃ ι : Nat → Nat, ι 0 = r ∧ ι 1 = a ∧ ι 2 = r2 ∧ ι 3 = a2 := ⟨fun k => if k = 0 then r else if k = 1 then a else if k = 2 then r2 else a2, rfl, rfl, rfl, rfl⟩
  obtain ⟨ι, i0, i1, i2, i3⟩ := ι0
  have hsub : ∀ (k : Nat) (sh : mz_Sh), (mz_row2 n)[k]? = some (some sh) → lay[ι k]? = some (some (mz_shm ι sh)) := by
    intro k sh hk
    rcases all k sh hk with ⟨rfl, rfl⟩ | ⟨rfl, rfl⟩ | ⟨rfl, rfl⟩ | ⟨rfl, rfl⟩
    · rw [i0, hr]; simp [mz_shm, i1]
    · rw [i1, ha]; rfl
    · rw [i2, hr2]; simp [mz_shm, i3]
    · rw [i3, ha2]; rfl
  have n1 := mz_row_ne hr ha
  have n2 := mz_row_ne hr2 ha2
  have n3 : r ≠ a2 := fun e => by subst e; rw [hr] at ha2; cases ha2
  have n4 : r2 ≠ a := fun e => by subst e; rw [hr2] at ha; cases ha
  have hI2 : mz_I (fun k => ρ (ι k)) (mz_row2 n) := by
    intro i j x y hi hj e
    have e2 := hI _ _ _ _ (hsub i x hi) (hsub j y hj) e
    rcases all i x hi with ⟨rfl, -⟩ | ⟨rfl, -⟩ | ⟨rfl, -⟩ | ⟨rfl, -⟩ <;> rcases all j y hj with ⟨rfl, -⟩ | ⟨rfl, -⟩ | ⟨rfl, -⟩ | ⟨rfl, -⟩ <;> simp only [i0, i1, i2, i3] at e2 <;> first | rfl | exact absurd e2 n1 | exact absurd e2.symm n1 | exact absurd e2 n2 | exact absurd e2.symm n2 | exact absurd e2 n3 | exact absurd e2.symm n3 | exact absurd e2 n4 | exact absurd e2.symm n4 | exact absurd e2 hne | exact absurd e2.symm hne | exact absurd e2 hne2 | exact absurd e2.symm hne2
  refine mz_lift (ι := ι) (f_Row_copyFrom_0 l D cA _ n hn hI2 (fun k => M (ι k))) hsub hI (fun _ _ _ => rfl) (fun k sh hk => ?_) (fun b hb => ?_) (by simp [mz_e, i0, i2]) rfl
  · rcases all k sh hk with ⟨rfl, -⟩ | ⟨rfl, -⟩ | ⟨rfl, -⟩ | ⟨rfl, -⟩
    · rw [mz_s_ne (by decide), i0, mz_s_ne n1]
    · rw [mz_s_eq, i1, mz_s_eq, i3]
    · rw [mz_s_ne (by decide), i2, mz_s_ne n4]
    · rw [mz_s_ne (by decide), i3, mz_s_ne (Ne.symm hne2)]
  · exact mz_s_ne (fun e => hb 1 (.inl n) rfl (by rw [e, i1]))
end
section
def mz_grid (n : Nat) : List (Option mz_Sh) := [some (.inr (3, [none, some (some 1)])), some (.inr (6, [some (some 2)])), some (.inl n)]
def mz_gg (n : Nat) (w : Int32) (f : Nat → Int32) (l c : Int32) : Int32 := if c < 0 then -1 else if w ≤ c then -1 else mz_rg n f (l * w + c)
def mz_gs (n : Nat) (w : Int32) (f : Nat → Int32) (l c v : Int32) : Nat → Int32 := if c < 0 then f else if w ≤ c then f else mz_rs n f (l * w + c) v
theorem mz_grid_all {n k : Nat} {sh : mz_Sh} (hk : (mz_grid n)[k]? = some (some sh)) : (k = 0 ∧ sh = .inr (3, [none, some (some 1)])) ∨ (k = 1 ∧ sh = .inr (6, [some (some 2)])) ∨ (k = 2 ∧ sh = .inl n) := by
  have h1 : k < 3 := (List.getElem?_eq_some_iff.mp hk).1
  rcases (show k = 0 ∨ k = 1 ∨ k = 2 by omega) with rfl | rfl | rfl <;> cases hk <;> simp
theorem mz_grid_sub {lay : List (Option mz_Sh)} {g r a n : Nat} (hg : lay[g]? = some (some (.inr (3, [none, some (some r)])))) (hr : lay[r]? = some (some (.inr (6, [some (some a)])))) (ha : lay[a]? = some (some (.inl n))) : ∀ (k : Nat) (sh : mz_Sh), (mz_grid n)[k]? = some (some sh) → lay[(fun k => if k = 0 then g else if k = 1 then r else a) k]? = some (some (mz_shm (fun k => if k = 0 then g else if k = 1 then r else a) sh)) := by
  intro k sh hk
  rcases mz_grid_all hk with ⟨rfl, rfl⟩ | ⟨rfl, rfl⟩ | ⟨rfl, rfl⟩
  · exact hg
  · exact hr
  · exact ha
theorem mz_grid_I {ρ : Nat → Nat} {lay : List (Option mz_Sh)} {g r a n : Nat} (hI : mz_I ρ lay) (hg : lay[g]? = some (some (.inr (3, [none, some (some r)])))) (hr : lay[r]? = some (some (.inr (6, [some (some a)])))) (ha : lay[a]? = some (some (.inl n))) : mz_I (fun k => ρ ((fun k => if k = 0 then g else if k = 1 then r else a) k)) (mz_grid n) := by
  have n1 : g ≠ r := fun e => by subst e; rw [hg] at hr; cases hr
  have n2 : g ≠ a := fun e => by subst e; rw [hg] at ha; cases ha
  have n3 : r ≠ a := mz_row_ne hr ha
  intro i j x y hi hj e
  have e2 := hI _ _ _ _ (mz_grid_sub hg hr ha i x hi) (mz_grid_sub hg hr ha j y hj) e
  rcases mz_grid_all hi with ⟨rfl, -⟩ | ⟨rfl, -⟩ | ⟨rfl, -⟩ <;> rcases mz_grid_all hj with ⟨rfl, -⟩ | ⟨rfl, -⟩ | ⟨rfl, -⟩ <;> first | rfl | exact absurd e2 n1 | exact absurd e2.symm n1 | exact absurd e2 n2 | exact absurd e2.symm n2 | exact absurd e2 n3 | exact absurd e2.symm n3
theorem mz_gridR {l : Launch} {D : va_G} {cA : ClassId} {ρ : Nat → Nat} {lay : List (Option mz_Sh)} {g r a n nL fr lo : Nat} {y : MethodName} {cc : ByteArray} {ret : Option FieldType} {As : List Value} {v : Option Value} {M : mz_Mem} (hI : mz_I ρ lay) (hg : lay[g]? = some (some (.inr (3, [none, some (some r)])))) (hr : lay[r]? = some (some (.inr (6, [some (some a)])))) (ha : lay[a]? = some (some (.inl n)))
    (F : mz_M l D vwCl cA (fun k => ρ ((fun k => if k = 0 then g else if k = 1 then r else a) k)) (mz_grid n) y cc nL ret fr lo As (fun k => M ((fun k => if k = 0 then g else if k = 1 then r else a) k)) v (fun k => M ((fun k => if k = 0 then g else if k = 1 then r else a) k))) {As' : List Value} {v' : Option Value} (hA : As' = As.map (mz_e (fun k => if k = 0 then g else if k = 1 then r else a))) (hv : v' = v.map (mz_e (fun k => if k = 0 then g else if k = 1 then r else a))) : mz_M l D vwCl cA ρ lay y cc nL ret fr lo As' M v' M :=
  mz_lift F (mz_grid_sub hg hr ha) hI (fun _ _ _ => rfl) (fun _ _ _ => rfl) (fun _ _ => rfl) hA hv
theorem mz_gridW {l : Launch} {D : va_G} {cA : ClassId} {ρ : Nat → Nat} {lay : List (Option mz_Sh)} {g r a n nL fr lo : Nat} {y : MethodName} {cc : ByteArray} {ret : Option FieldType} {As : List Value} {v : Option Value} {M : mz_Mem} {f : Nat → Int32} (hI : mz_I ρ lay) (hg : lay[g]? = some (some (.inr (3, [none, some (some r)])))) (hr : lay[r]? = some (some (.inr (6, [some (some a)])))) (ha : lay[a]? = some (some (.inl n)))
    (F : mz_M l D vwCl cA (fun k => ρ ((fun k => if k = 0 then g else if k = 1 then r else a) k)) (mz_grid n) y cc nL ret fr lo As (fun k => M ((fun k => if k = 0 then g else if k = 1 then r else a) k)) v (mz_s (fun k => M ((fun k => if k = 0 then g else if k = 1 then r else a) k)) 2 f)) {As' : List Value} {v' : Option Value} (hA : As' = As.map (mz_e (fun k => if k = 0 then g else if k = 1 then r else a))) (hv : v' = v.map (mz_e (fun k => if k = 0 then g else if k = 1 then r else a))) : mz_M l D vwCl cA ρ lay y cc nL ret fr lo As' M v' (mz_s M a f) := by
  have n2 : g ≠ a := fun e => by subst e; rw [hg] at ha; cases ha
  have n3 : r ≠ a := mz_row_ne hr ha
  refine mz_lift F (mz_grid_sub hg hr ha) hI (fun _ _ _ => rfl) (fun k sh hk => ?_) (fun b hb => ?_) hA hv
  · rcases mz_grid_all hk with ⟨rfl, -⟩ | ⟨rfl, -⟩ | ⟨rfl, -⟩
    · rw [mz_s_ne (by decide)]
      show M g = mz_s M a f g
      rw [mz_s_ne n2]
    · rw [mz_s_ne (by decide)]
      show M r = mz_s M a f r
      rw [mz_s_ne n3]
    · rw [mz_s_eq]
      show f = mz_s M a f a
      rw [mz_s_eq]
  · exact mz_s_ne (fun e => hb 2 (.inl n) rfl (by rw [e]; rfl))
set_option maxHeartbeats 4000000 in
theorem f_Grid_get_0 (l : Launch) (D : va_G) (cA : ClassId) (ρ : Nat → Nat) (n : Nat) (hn : n < 2 ^ 31) (hI : mz_I ρ (mz_grid n)) (M : mz_Mem) (l0 c0 : Int32) : mz_M l D vwCl cA ρ (mz_grid n) yX3_get cX3_get 3 (some .int) 1 21 [.ref 0, .int l0, .int c0] M (some (.int (mz_gg n (M 0 0) (M 2) l0 c0))) M := by
  refine mz_in0 (by decide +kernel) (Nat.le_of_ble_eq_true rfl) (fun Γ C E => ?_)
  have E' := (⟨_, _, _, E⟩ : ∃ Qc mc ms, mz_E Γ Qc mc ms (mz_A ρ (mz_grid n)))
  refine mz_go FLX3 KLX3 C [(0, .iload_n 2)] (by decide +kernel) (pc' := 1) (L' := [(0, .ref 0), (1, .int l0), (2, .int c0)]) (st' := [.int c0]) rfl ?_
  refine mz_zlt (off := 29) (tgt := 30) C (by decide +kernel) (by decide) (fun h1 => ?_) (fun h1 => ?_)
  · refine mz_go FLX3 KLX3 C [(30, .iconst (-1))] (by decide +kernel) (pc' := 31) (L' := [(0, .ref 0), (1, .int l0), (2, .int c0)]) (st' := [.int (-1)]) rfl ?_
    exact mz_iret C E (by decide +kernel) (by unfold mz_gg; rw [if_pos h1]) rfl
  · refine mz_go FLX3 KLX3 C [(4, .iload_n 2), (5, .aload_n 0), (6, .getfield 9)] (by decide +kernel) (pc' := 9) (L' := [(0, .ref 0), (1, .int l0), (2, .int c0)]) (st' := [.int (M 0 0), .int c0]) rfl ?_
    refine mz_ige (off := 21) (tgt := 30) C (by decide +kernel) (by decide) (fun h2 => ?_) (fun h2 => ?_)
    · refine mz_go FLX3 KLX3 C [(30, .iconst (-1))] (by decide +kernel) (pc' := 31) (L' := [(0, .ref 0), (1, .int l0), (2, .int c0)]) (st' := [.int (-1)]) rfl ?_
      exact mz_iret C E (by decide +kernel) (by unfold mz_gg; rw [if_neg h1, if_pos h2]) rfl
    · refine mz_go FLX3 KLX3 C [(12, .aload_n 0), (13, .getfield 20), (16, .iload_n 1), (17, .aload_n 0), (18, .getfield 9), (21, .imul), (22, .iload_n 2), (23, .iadd)] (by decide +kernel) (pc' := 24) (L' := [(0, .ref 0), (1, .int l0), (2, .int c0)]) (st' := [.int ((l0 * (M 0 0)) + c0), .ref 1]) rfl ?_
      refine mz_callV (As := [.int ((l0 * (M 0 0)) + c0)]) (rest := []) C E' (f_Row_get l D cA ρ hI (r := 1) (a := 2) rfl rfl hn M ((l0 * (M 0 0)) + c0)) hy_X6_get wl_X3_24 rfl rfl rfl ⟨Nat.le_of_ble_eq_true rfl, Nat.le_of_ble_eq_true rfl⟩ ⟨Nat.le_refl _, Nat.le_refl _⟩ (Nat.le_of_ble_eq_true rfl) (by decide +kernel) ?_ rfl
      refine mz_go FLX3 KLX3 C [(27, .goto 4)] (by decide +kernel) (pc' := 31) (L' := [(0, .ref 0), (1, .int l0), (2, .int c0)]) (st' := [.int (mz_rg n (M 2) ((l0 * (M 0 0)) + c0))]) rfl ?_
      exact mz_iret C E (by decide +kernel) (by unfold mz_gg; rw [if_neg h1, if_neg h2]) rfl
set_option maxHeartbeats 4000000 in
theorem f_Grid_set_0 (l : Launch) (D : va_G) (cA : ClassId) (ρ : Nat → Nat) (n : Nat) (hn : n < 2 ^ 31) (hI : mz_I ρ (mz_grid n)) (M : mz_Mem) (l0 c0 v : Int32) : mz_M l D vwCl cA ρ (mz_grid n) yX3_set cX3_set 4 none 1 22 [.ref 0, .int l0, .int c0, .int v] M none (mz_s M 2 (mz_gs n (M 0 0) (M 2) l0 c0 v)) := by
  refine mz_in0 (by decide +kernel) (Nat.le_of_ble_eq_true rfl) (fun Γ C E => ?_)
  have E' := (⟨_, _, _, E⟩ : ∃ Qc mc ms, mz_E Γ Qc mc ms (mz_A ρ (mz_grid n)))
  refine mz_go FLX3 KLX3 C [(0, .iload_n 2)] (by decide +kernel) (pc' := 1) (L' := [(0, .ref 0), (1, .int l0), (2, .int c0), (3, .int v)]) (st' := [.int c0]) rfl ?_
  refine mz_zlt (off := 27) (tgt := 28) C (by decide +kernel) (by decide) (fun h1 => ?_) (fun h1 => ?_)
  · exact mz_vret C E (by decide +kernel) (by unfold mz_gs; rw [if_pos h1, mz_s_id])
  · refine mz_go FLX3 KLX3 C [(4, .iload_n 2), (5, .aload_n 0), (6, .getfield 9)] (by decide +kernel) (pc' := 9) (L' := [(0, .ref 0), (1, .int l0), (2, .int c0), (3, .int v)]) (st' := [.int (M 0 0), .int c0]) rfl ?_
    refine mz_ige (off := 19) (tgt := 28) C (by decide +kernel) (by decide) (fun h2 => ?_) (fun h2 => ?_)
    · exact mz_vret C E (by decide +kernel) (by unfold mz_gs; rw [if_neg h1, if_pos h2, mz_s_id])
    · refine mz_go FLX3 KLX3 C [(12, .aload_n 0), (13, .getfield 20), (16, .iload_n 1), (17, .aload_n 0), (18, .getfield 9), (21, .imul), (22, .iload_n 2), (23, .iadd), (24, .iload_n 3)] (by decide +kernel) (pc' := 25) (L' := [(0, .ref 0), (1, .int l0), (2, .int c0), (3, .int v)]) (st' := [.int v, .int ((l0 * (M 0 0)) + c0), .ref 1]) rfl ?_
      refine mz_callV (As := [.int ((l0 * (M 0 0)) + c0), .int v]) (rest := []) C E' (f_Row_set l D cA ρ hI (r := 1) (a := 2) rfl rfl hn M ((l0 * (M 0 0)) + c0) v) hy_X6_set wl_X3_28 rfl rfl rfl ⟨Nat.le_of_ble_eq_true rfl, Nat.le_of_ble_eq_true rfl⟩ ⟨Nat.le_refl _, Nat.le_refl _⟩ (Nat.le_of_ble_eq_true rfl) (by decide +kernel) ?_ rfl
      exact mz_vret C E (by decide +kernel) (by unfold mz_gs; rw [if_neg h1, if_neg h2])
set_option maxHeartbeats 4000000 in
theorem f_Grid_fill_0 (l : Launch) (D : va_G) (cA : ClassId) (ρ : Nat → Nat) (n : Nat) (hn : n < 2 ^ 31) (hI : mz_I ρ (mz_grid n)) (M : mz_Mem) (v : Int32) : mz_M l D vwCl cA ρ (mz_grid n) yX3_fill cX3_fill 2 none 2 44 [.ref 0, .int v] M none (mz_s M 2 (fun _ => v)) := by
  refine mz_in0 (by decide +kernel) (Nat.le_of_ble_eq_true rfl) (fun Γ C E => ?_)
  have E' := (⟨_, _, _, E⟩ : ∃ Qc mc ms, mz_E Γ Qc mc ms (mz_A ρ (mz_grid n)))
  refine mz_go FLX3 KLX3 C [(0, .aload_n 0), (1, .getfield 20), (4, .iload_n 1)] (by decide +kernel) (pc' := 5) (L' := [(0, .ref 0), (1, .int v)]) (st' := [.int v, .ref 1]) rfl ?_
  refine mz_callV (As := [.int v]) (rest := []) C E' (f_Row_fill l D cA ρ hI (r := 1) (a := 2) rfl rfl hn M v) hy_X6_fill wl_X3_32 rfl rfl rfl ⟨Nat.le_of_ble_eq_true rfl, Nat.le_of_ble_eq_true rfl⟩ ⟨Nat.le_refl _, Nat.le_refl _⟩ (Nat.le_of_ble_eq_true rfl) (by decide +kernel) ?_ rfl
  exact mz_vret C E (by decide +kernel) rfl
theorem f_Grid_get (l : Launch) (D : va_G) (cA : ClassId) (ρ : Nat → Nat) {lay : List (Option mz_Sh)} (hI : mz_I ρ lay) {g r a n : Nat} (hg : lay[g]? = some (some (.inr (3, [none, some (some r)])))) (hr : lay[r]? = some (some (.inr (6, [some (some a)])))) (ha : lay[a]? = some (some (.inl n))) (hn : n < 2 ^ 31) (M : mz_Mem) (l0 c0 : Int32) :
    mz_M l D vwCl cA ρ lay yX3_get cX3_get 3 (some .int) 1 21 [.ref g, .int l0, .int c0] M (some (.int (mz_gg n (M g 0) (M a) l0 c0))) M :=
  mz_gridR hI hg hr ha (f_Grid_get_0 l D cA _ n hn (mz_grid_I hI hg hr ha) _ l0 c0) rfl rfl
theorem f_Grid_set (l : Launch) (D : va_G) (cA : ClassId) (ρ : Nat → Nat) {lay : List (Option mz_Sh)} (hI : mz_I ρ lay) {g r a n : Nat} (hg : lay[g]? = some (some (.inr (3, [none, some (some r)])))) (hr : lay[r]? = some (some (.inr (6, [some (some a)])))) (ha : lay[a]? = some (some (.inl n))) (hn : n < 2 ^ 31) (M : mz_Mem) (l0 c0 v : Int32) :
    mz_M l D vwCl cA ρ lay yX3_set cX3_set 4 none 1 22 [.ref g, .int l0, .int c0, .int v] M none (mz_s M a (mz_gs n (M g 0) (M a) l0 c0 v)) :=
  mz_gridW hI hg hr ha (f_Grid_set_0 l D cA _ n hn (mz_grid_I hI hg hr ha) _ l0 c0 v) rfl rfl
theorem f_Grid_fill (l : Launch) (D : va_G) (cA : ClassId) (ρ : Nat → Nat) {lay : List (Option mz_Sh)} (hI : mz_I ρ lay) {g r a n : Nat} (hg : lay[g]? = some (some (.inr (3, [none, some (some r)])))) (hr : lay[r]? = some (some (.inr (6, [some (some a)])))) (ha : lay[a]? = some (some (.inl n))) (hn : n < 2 ^ 31) (M : mz_Mem) (v : Int32) :
    mz_M l D vwCl cA ρ lay yX3_fill cX3_fill 2 none 2 44 [.ref g, .int v] M none (mz_s M a (fun _ => v)) :=
  mz_gridW hI hg hr ha (f_Grid_fill_0 l D cA _ n hn (mz_grid_I hI hg hr ha) _ v) rfl rfl
end
section
/-! what stays: house and script (cells below 30), the number of guests (60); the house's own objects -/
def mz_hs (M M' : mz_Mem) : Prop := ∀ k, k < 30 ∨ k = 60 → M' k = M k
theorem mz_hs_rf {M : mz_Mem} : mz_hs M M := fun _ _ => rfl
theorem mz_hs.trans {A B C : mz_Mem} (h : mz_hs A B) (g : mz_hs B C) : mz_hs A C := fun k hk => (g k hk).trans (h k hk)
theorem mz_hs_s {M : mz_Mem} {k : Nat} {f : Nat → Int32} (h : 30 ≤ k ∧ k ≠ 60) : mz_hs M (mz_s M k f) := fun j hj => mz_s_ne (by omega)
theorem mz_lp_ind {α : Type} (F : Int32 → α → α) (R : α → α → Prop) (hr : ∀ a, R a a) (ht : ∀ a b c, R a b → R b c → R a c) (h : ∀ i a, R a (F i a)) : ∀ (r j : Nat) (a : α), R a (mz_lp F j r a)
  | 0, _, a => hr a
  | r + 1, j, a => ht _ _ _ (h (nI j) a) (mz_lp_ind F R hr ht h r (j + 1) _)
theorem mz_hs_frp {α : Type} (π : α → mz_Mem) {n : Int32} {F : Int32 → α → α} {a : α} (h : ∀ i a, mz_hs (π a) (π (F i a))) : mz_hs (π a) (π (mz_fr n F a)) :=
  mz_lp_ind F (fun x y => mz_hs (π x) (π y)) (fun _ => mz_hs_rf) (fun _ _ _ => mz_hs.trans) h _ _ _
def mz_hh (M M' : mz_Mem) : Prop := ∀ k, k ∈ [1, 6, 9, 12] → M' k = M k
theorem mz_hh_rf {M : mz_Mem} : mz_hh M M := fun _ _ => rfl
theorem mz_hh.trans {A B C : mz_Mem} (h : mz_hh A B) (g : mz_hh B C) : mz_hh A C := fun k hk => (g k hk).trans (h k hk)
theorem mz_hh_s {M : mz_Mem} {k : Nat} {f : Nat → Int32} (h : k ∉ [1, 6, 9, 12]) : mz_hh M (mz_s M k f) := fun j hj => mz_s_ne (fun e => h (by rw [← e]; exact hj))
theorem mz_hh_frp {α : Type} (π : α → mz_Mem) {n : Int32} {F : Int32 → α → α} {a : α} (h : ∀ i a, mz_hh (π a) (π (F i a))) : mz_hh (π a) (π (mz_fr n F a)) :=
  mz_lp_ind F (fun x y => mz_hh (π x) (π y)) (fun _ => mz_hh_rf) (fun _ _ _ => mz_hh.trans) h _ _ _
theorem mz_loopI {α : Type} (n : Int32) (F : Int32 → α → α) (K : Int32 → α → Prop) (I : α → Prop) (a : α) (h0 : I a) (hp : ∀ i a, I a → I (F i a))
    (h : ∀ (i : Int32) (a' : α), 0 ≤ i → I a' → (n ≤ i → a' = mz_fr n F a) → (¬ n ≤ i → K (i + 1) (F i a')) → K i a') : K 0 a := by
  have key : ∀ (r j : Nat) (a' : α), j + r = mz_n n → I a' → mz_lp F j r a' = mz_fr n F a → K (nI j) a' := by
    intro r
    induction r with
    | zero =>
      intro j a' hj hi he
      have hb := mz_n_lt n
      refine h (nI j) a' (nI_pos' (by omega)) hi (fun _ => he) (fun hn => ?_)
      exact absurd ((mz_n_le (by omega)).mpr (by omega)) hn
    | succ r ih =>
      intro j a' hj hi he
      have hb := mz_n_lt n
      refine h (nI j) a' (nI_pos' (by omega)) hi (fun hn => ?_) (fun _ => ?_)
      · have := (mz_n_le (by omega)).mp hn
        omega
      · rw [nI_1]
        exact ih (j + 1) _ (by omega) (hp _ _ hi) he
  exact key (mz_n n) 0 a (by omega) h0 rfl
/-- a loop that a condition on what it has reached may end before its count -/
theorem mz_loopB {α : Type} (n : Int32) (F : Int32 → α → α) (K : Int32 → α → Prop) (I B : α → Prop) (a : α) (h0 : I a) (hp : ∀ i a, I a → I (F i a)) (hB : ∀ i a, B a → F i a = a)
    (h : ∀ (i : Int32) (a' : α), 0 ≤ i → I a' → (n ≤ i → a' = mz_fr n F a) → (¬ n ≤ i → B a' → a' = mz_fr n F a) → (¬ n ≤ i → K (i + 1) (F i a')) → K i a') : K 0 a := by
  have stay : ∀ (r j : Nat) (a' : α), B a' → mz_lp F j r a' = a' := by
    intro r
    induction r with
    | zero => intro j a' _; rfl
    | succ r ih =>
      intro j a' hb
      show mz_lp F (j + 1) r (F (nI j) a') = a'
      rw [hB _ _ hb]
      exact ih _ _ hb
  have key : ∀ (r j : Nat) (a' : α), j + r = mz_n n → I a' → mz_lp F j r a' = mz_fr n F a → K (nI j) a' := by
    intro r
    induction r with
    | zero =>
      intro j a' hj hi he
      have hb := mz_n_lt n
      refine h (nI j) a' (nI_pos' (by omega)) hi (fun _ => he) (fun hn => ?_) (fun hn => ?_)
      · exact absurd ((mz_n_le (by omega)).mpr (by omega)) hn
      · exact absurd ((mz_n_le (by omega)).mpr (by omega)) hn
    | succ r ih =>
      intro j a' hj hi he
      have hb := mz_n_lt n
      refine h (nI j) a' (nI_pos' (by omega)) hi (fun hn => ?_) (fun _ hk => ?_) (fun _ => ?_)
      · have := (mz_n_le (by omega)).mp hn
        omega
      · rw [← he]; exact (stay _ _ _ hk).symm
      · rw [nI_1]
        exact ih (j + 1) _ (by omega) (hp _ _ hi) he
  exact key (mz_n n) 0 a (by omega) h0 rfl
theorem mz_ne_toInt {x k : Int32} {v : Int} (hk : k.toInt = v) (h : ¬ x = k) : ¬ x.toInt = v := fun e => h (Int32.toInt_inj.mp (e.trans hk.symm))
section MZX
variable {Γ : mz_G} {l : Launch} {own : String} {cc : ByteArray} {nL k n : Nat} {ret : Option FieldType} {D : va_G} {cl : List vw_C} {tys : List (ClassId × FieldType)} {rm : Room} {ρ : Nat → Nat} {P : Heap → Prop}
variable {pc tgt : Nat} {L : List (Nat × Value)} {st : List Value} {x y : Int32}
theorem mz_tin {dflt lo hi : Int} {offs : Array Int} {len : Nat} {q : Int32} {v off : Int} (C : mz_C Γ l own cc nL ret D cl tys rm) (hd : decode cc pc = .ok (.tableswitch dflt lo hi offs, len)) (hx0 : x = q) (hq : q.toInt = v) (h12 : lo ≤ v ∧ v ≤ hi) (ho : offs[(v - lo).toNat]? = some off) (ht : (pc : Int) + off = (tgt : Int))
    (kk : mz_W Γ ρ nL k n P tgt L st) : mz_W Γ ρ nL k n P pc L (.int x :: st) := by
  obtain ⟨p, l', e, R, s, m, args, below, meth, c, H0, A, Q⟩ := Γ
  obtain ⟨-, hx, hb, -⟩ := C
  subst hx0
  exact fun H ls locs hP hS hl => lv_tableIn hx hb hd (by rw [hq]; omega) (by rw [hq]; omega) (by rw [hq]; exact ho) ht (kk H ls locs hP hS hl)
theorem mz_tout {dflt lo hi : Int} {offs : Array Int} {len : Nat} (C : mz_C Γ l own cc nL ret D cl tys rm) (hd : decode cc pc = .ok (.tableswitch dflt lo hi offs, len)) (h : x.toInt < lo ∨ hi < x.toInt) (ht : (pc : Int) + dflt = (tgt : Int))
    (kk : mz_W Γ ρ nL k n P tgt L st) : mz_W Γ ρ nL k n P pc L (.int x :: st) := by
  obtain ⟨p, l', e, R, s, m, args, below, meth, c, H0, A, Q⟩ := Γ
  obtain ⟨-, hx, hb, -⟩ := C
  exact fun H ls locs hP hS hl => lv_tableOut hx hb hd h ht (kk H ls locs hP hS hl)
theorem mz_irem (C : mz_C Γ l own cc nL ret D cl tys rm) (h0 : ¬ y = 0) (hd : decode cc pc = .ok (.irem, 1)) (kk : mz_W Γ ρ nL k n P (pc + 1) L (.int (x - x / y * y) :: st)) : mz_W Γ ρ nL k n P pc L (.int y :: .int x :: st) := by
  obtain ⟨p, l', e, R, s, m, args, below, meth, c, H0, A, Q⟩ := Γ
  obtain ⟨-, hx, hb, -⟩ := C
  exact fun H ls locs hP hS hl => lv_irem hx hb hd h0 (kk H ls locs hP hS hl)
theorem mz_idiv (C : mz_C Γ l own cc nL ret D cl tys rm) (h0 : ¬ y = 0) (hd : decode cc pc = .ok (.idiv, 1)) (kk : mz_W Γ ρ nL k n P (pc + 1) L (.int (x / y) :: st)) : mz_W Γ ρ nL k n P pc L (.int y :: .int x :: st) := by
  obtain ⟨p, l', e, R, s, m, args, below, meth, c, H0, A, Q⟩ := Γ
  obtain ⟨-, hx, hb, -⟩ := C
  exact fun H ls locs hP hS hl => lv_idiv hx hb hd h0 (kk H ls locs hP hS hl)
end MZX
end
section
/-- one evening with house and script; cell 0 is left open -/
def mz_lay1 : List (Option mz_Sh) := [none, some (.inr (4, [none, none, some (some 2), some (some 4), some (some 6), some (some 9), some (some 12)])), some (.inr (6, [some (some 3)])), some (.inl 8), some (.inr (6, [some (some 5)])), some (.inl 14), some (.inr (3, [none, some (some 7)])), some (.inr (6, [some (some 8)])), some (.inl 64), some (.inr (3, [none, some (some 10)])), some (.inr (6, [some (some 11)])), some (.inl 64), some (.inr (3, [none, some (some 13)])), some (.inr (6, [some (some 14)])), some (.inl 64), some (.inr (7, [none, none, none, some (some 16), some (some 18), some (some 20), some (some 22), some (some 24), some (some 26), some (some 28)])), some (.inr (6, [some (some 17)])), some (.inl 5), some (.inr (6, [some (some 19)])), some (.inl 4), some (.inr (6, [some (some 21)])), some (.inl 12), some (.inr (6, [some (some 23)])), some (.inl 12), some (.inr (6, [some (some 25)])), some (.inl 12), some (.inr (6, [some (some 27)])), some (.inl 12), some (.inr (6, [some (some 29)])), some (.inl 12), some (.inr (2, [some (some 1), some (some 15), some (some 33), some (some 40), some (some 51), some (some 60), some (some 31), none])), some (.inr (6, [some (some 32)])), some (.inl 14), some (.inr (1, [some (some 15), some (some 34), some (some 36), some (some 38)])), some (.inr (6, [some (some 35)])), some (.inl 5), some (.inr (6, [some (some 37)])), some (.inl 5), some (.inr (6, [some (some 39)])), some (.inl 5), some (.inr (8, [some (some 15), some (some 41), some (some 43), some (some 45), some (some 47), some (some 49), none])), some (.inr (6, [some (some 42)])), some (.inl 12), some (.inr (6, [some (some 44)])), some (.inl 12), some (.inr (6, [some (some 46)])), some (.inl 12), some (.inr (6, [some (some 48)])), some (.inl 12), some (.inr (6, [some (some 50)])), some (.inl 12), some (.inr (5, [some (some 15), some (some 52), some (some 54), some (some 56), some (some 58)])), some (.inr (6, [some (some 53)])), some (.inl 4), some (.inr (6, [some (some 55)])), some (.inl 4), some (.inr (6, [some (some 57)])), some (.inl 4), some (.inr (6, [some (some 59)])), some (.inl 4), some (.inr (0, [none, some (some 61), some (some 63), some (some 65), some (some 67), some (some 69), some (some 71), some (some 73), some (some 76)])), some (.inr (6, [some (some 62)])), some (.inl 12), some (.inr (6, [some (some 64)])), some (.inl 12), some (.inr (6, [some (some 66)])), some (.inl 12), some (.inr (6, [some (some 68)])), some (.inl 12), some (.inr (6, [some (some 70)])), some (.inl 12), some (.inr (6, [some (some 72)])), some (.inl 12), some (.inr (3, [none, some (some 74)])), some (.inr (6, [some (some 75)])), some (.inl 144), some (.inr (6, [some (some 77)])), some (.inl 8)]
/-- the whole object -/
def mz_lay2 : List (Option mz_Sh) := [some (.inr (9, [some (some 1), some (some 15), some (some 30), some (some 78)])), some (.inr (4, [none, none, some (some 2), some (some 4), some (some 6), some (some 9), some (some 12)])), some (.inr (6, [some (some 3)])), some (.inl 8), some (.inr (6, [some (some 5)])), some (.inl 14), some (.inr (3, [none, some (some 7)])), some (.inr (6, [some (some 8)])), some (.inl 64), some (.inr (3, [none, some (some 10)])), some (.inr (6, [some (some 11)])), some (.inl 64), some (.inr (3, [none, some (some 13)])), some (.inr (6, [some (some 14)])), some (.inl 64), some (.inr (7, [none, none, none, some (some 16), some (some 18), some (some 20), some (some 22), some (some 24), some (some 26), some (some 28)])), some (.inr (6, [some (some 17)])), some (.inl 5), some (.inr (6, [some (some 19)])), some (.inl 4), some (.inr (6, [some (some 21)])), some (.inl 12), some (.inr (6, [some (some 23)])), some (.inl 12), some (.inr (6, [some (some 25)])), some (.inl 12), some (.inr (6, [some (some 27)])), some (.inl 12), some (.inr (6, [some (some 29)])), some (.inl 12), some (.inr (2, [some (some 1), some (some 15), some (some 33), some (some 40), some (some 51), some (some 60), some (some 31), none])), some (.inr (6, [some (some 32)])), some (.inl 14), some (.inr (1, [some (some 15), some (some 34), some (some 36), some (some 38)])), some (.inr (6, [some (some 35)])), some (.inl 5), some (.inr (6, [some (some 37)])), some (.inl 5), some (.inr (6, [some (some 39)])), some (.inl 5), some (.inr (8, [some (some 15), some (some 41), some (some 43), some (some 45), some (some 47), some (some 49), none])), some (.inr (6, [some (some 42)])), some (.inl 12), some (.inr (6, [some (some 44)])), some (.inl 12), some (.inr (6, [some (some 46)])), some (.inl 12), some (.inr (6, [some (some 48)])), some (.inl 12), some (.inr (6, [some (some 50)])), some (.inl 12), some (.inr (5, [some (some 15), some (some 52), some (some 54), some (some 56), some (some 58)])), some (.inr (6, [some (some 53)])), some (.inl 4), some (.inr (6, [some (some 55)])), some (.inl 4), some (.inr (6, [some (some 57)])), some (.inl 4), some (.inr (6, [some (some 59)])), some (.inl 4), some (.inr (0, [none, some (some 61), some (some 63), some (some 65), some (some 67), some (some 69), some (some 71), some (some 73), some (some 76)])), some (.inr (6, [some (some 62)])), some (.inl 12), some (.inr (6, [some (some 64)])), some (.inl 12), some (.inr (6, [some (some 66)])), some (.inl 12), some (.inr (6, [some (some 68)])), some (.inl 12), some (.inr (6, [some (some 70)])), some (.inl 12), some (.inr (6, [some (some 72)])), some (.inl 12), some (.inr (3, [none, some (some 74)])), some (.inr (6, [some (some 75)])), some (.inl 144), some (.inr (6, [some (some 77)])), some (.inl 8), some (.inr (2, [some (some 1), some (some 15), some (some 81), some (some 88), some (some 99), some (some 108), some (some 79), none])), some (.inr (6, [some (some 80)])), some (.inl 14), some (.inr (1, [some (some 15), some (some 82), some (some 84), some (some 86)])), some (.inr (6, [some (some 83)])), some (.inl 5), some (.inr (6, [some (some 85)])), some (.inl 5), some (.inr (6, [some (some 87)])), some (.inl 5), some (.inr (8, [some (some 15), some (some 89), some (some 91), some (some 93), some (some 95), some (some 97), none])), some (.inr (6, [some (some 90)])), some (.inl 12), some (.inr (6, [some (some 92)])), some (.inl 12), some (.inr (6, [some (some 94)])), some (.inl 12), some (.inr (6, [some (some 96)])), some (.inl 12), some (.inr (6, [some (some 98)])), some (.inl 12), some (.inr (5, [some (some 15), some (some 100), some (some 102), some (some 104), some (some 106)])), some (.inr (6, [some (some 101)])), some (.inl 4), some (.inr (6, [some (some 103)])), some (.inl 4), some (.inr (6, [some (some 105)])), some (.inl 4), some (.inr (6, [some (some 107)])), some (.inl 4), some (.inr (0, [none, some (some 109), some (some 111), some (some 113), some (some 115), some (some 117), some (some 119), some (some 121), some (some 124)])), some (.inr (6, [some (some 110)])), some (.inl 12), some (.inr (6, [some (some 112)])), some (.inl 12), some (.inr (6, [some (some 114)])), some (.inl 12), some (.inr (6, [some (some 116)])), some (.inl 12), some (.inr (6, [some (some 118)])), some (.inl 12), some (.inr (6, [some (some 120)])), some (.inl 12), some (.inr (3, [none, some (some 122)])), some (.inr (6, [some (some 123)])), some (.inl 144), some (.inr (6, [some (some 125)])), some (.inl 8)]
end
section
def g_X7_areTracks (M : mz_Mem) (s : Int32) : Int32 := if s ≤ 0 then 0 else if (1 <<< ((M 15 0) &&& 31)) ≤ s then 0 else 1
set_option maxHeartbeats 4000000 in
theorem f_X7_areTracks (l : Launch) (D : va_G) (cA : ClassId) (ρ : Nat → Nat) (hI : mz_I ρ mz_lay1) (M : mz_Mem) (s : Int32) : mz_M l D vwCl cA ρ mz_lay1 yX7_areTracks cX7_areTracks 2 (some .boolean) 0 0 [.ref 15, .int s] M (some (.int (g_X7_areTracks M s))) M := by
  refine mz_in0 (by decide +kernel) (Nat.le_of_ble_eq_true rfl) (fun Γ C E => ?_)
  have E' := (⟨_, _, _, E⟩ : ∃ Qc mc ms, mz_E Γ Qc mc ms (mz_A ρ mz_lay1))
  refine mz_go FLX7 KLX7 C [(0, .iload_n 1)] (by decide +kernel) (pc' := 1) (L' := [(0, .ref 15), (1, .int s)]) (st' := [.int s]) rfl ?_
  refine mz_zle (off := 17) (tgt := 18) C (by decide +kernel) (by decide) (fun h1 => ?_) (fun h1 => ?_)
  · refine mz_go FLX7 KLX7 C [(18, .iconst 0)] (by decide +kernel) (pc' := 19) (L' := [(0, .ref 15), (1, .int s)]) (st' := [.int 0]) rfl ?_
    exact mz_zret C E (by decide +kernel) (Or.inl rfl) (by unfold g_X7_areTracks; rw [if_pos h1]; try rfl) (rfl)
  · refine mz_go FLX7 KLX7 C [(4, .iload_n 1), (5, .iconst 1), (6, .aload_n 0), (7, .getfield 38), (10, .ishl)] (by decide +kernel) (pc' := 11) (L' := [(0, .ref 15), (1, .int s)]) (st' := [.int (1 <<< ((M 15 0) &&& 31)), .int s]) rfl ?_
    refine mz_ige (off := 7) (tgt := 18) C (by decide +kernel) (by decide) (fun h2 => ?_) (fun h2 => ?_)
    · refine mz_go FLX7 KLX7 C [(18, .iconst 0)] (by decide +kernel) (pc' := 19) (L' := [(0, .ref 15), (1, .int s)]) (st' := [.int 0]) rfl ?_
      exact mz_zret C E (by decide +kernel) (Or.inl rfl) (by unfold g_X7_areTracks; rw [if_neg h1, if_pos h2]; try rfl) (rfl)
    · refine mz_go FLX7 KLX7 C [(14, .iconst 1), (15, .goto 4)] (by decide +kernel) (pc' := 19) (L' := [(0, .ref 15), (1, .int s)]) (st' := [.int 1]) rfl ?_
      exact mz_zret C E (by decide +kernel) (Or.inr rfl) (by unfold g_X7_areTracks; rw [if_neg h1, if_neg h2]; try rfl) (rfl)
def g_X7_has (M : mz_Mem) (k : Int32) (s : Int32) : Int32 := if ((mz_rg 12 (M 27) k) &&& s) = 0 then 0 else 1
set_option maxHeartbeats 4000000 in
theorem f_X7_has (l : Launch) (D : va_G) (cA : ClassId) (ρ : Nat → Nat) (hI : mz_I ρ mz_lay1) (M : mz_Mem) (k : Int32) (s : Int32) : mz_M l D vwCl cA ρ mz_lay1 yX7_has cX7_has 3 (some .boolean) 1 21 [.ref 15, .int k, .int s] M (some (.int (g_X7_has M k s))) M := by
  refine mz_in0 (by decide +kernel) (Nat.le_of_ble_eq_true rfl) (fun Γ C E => ?_)
  have E' := (⟨_, _, _, E⟩ : ∃ Qc mc ms, mz_E Γ Qc mc ms (mz_A ρ mz_lay1))
  refine mz_go FLX7 KLX7 C [(0, .aload_n 0), (1, .getfield 32), (4, .iload_n 1)] (by decide +kernel) (pc' := 5) (L' := [(0, .ref 15), (1, .int k), (2, .int s)]) (st' := [.int k, .ref 26]) rfl ?_
  refine mz_callV (As := [.int k]) (rest := []) C E' (f_Row_get l D cA ρ hI (r := 26) (a := 27) (n := 12) rfl rfl (by decide) M k) hy_X6_get wl_X7_52 rfl rfl rfl ⟨Nat.le_of_ble_eq_true rfl, Nat.le_of_ble_eq_true rfl⟩ ⟨Nat.le_refl _, Nat.le_refl _⟩ (Nat.le_of_ble_eq_true rfl) (by decide +kernel) ?_ rfl
  refine mz_go FLX7 KLX7 C [(8, .iload_n 2), (9, .iand)] (by decide +kernel) (pc' := 10) (L' := [(0, .ref 15), (1, .int k), (2, .int s)]) (st' := [.int ((mz_rg 12 (M 27) k) &&& s)]) rfl ?_
  refine mz_zeq (off := 7) (tgt := 17) C (by decide +kernel) (by decide) (fun h1 => ?_) (fun h1 => ?_)
  · refine mz_go FLX7 KLX7 C [(17, .iconst 0)] (by decide +kernel) (pc' := 18) (L' := [(0, .ref 15), (1, .int k), (2, .int s)]) (st' := [.int 0]) rfl ?_
    exact mz_zret C E (by decide +kernel) (Or.inl rfl) (by unfold g_X7_has; rw [if_pos h1]; try rfl) (rfl)
  · refine mz_go FLX7 KLX7 C [(13, .iconst 1), (14, .goto 4)] (by decide +kernel) (pc' := 18) (L' := [(0, .ref 15), (1, .int k), (2, .int s)]) (st' := [.int 1]) rfl ?_
    exact mz_zret C E (by decide +kernel) (Or.inr rfl) (by unfold g_X7_has; rw [if_neg h1]; try rfl) (rfl)
def g_X7_countScenesOf_1 (M : mz_Mem) (s : Int32) (i2 : Int32) (a3 : Int32) : Int32 := if (g_X7_has M i2 s) = 0 then a3 else a3 + 1
def g_X7_countScenesOf (M : mz_Mem) (s : Int32) : Int32 := (mz_fr (M 15 2) (g_X7_countScenesOf_1 M s) 0)
set_option maxHeartbeats 4000000 in
theorem f_X7_countScenesOf (l : Launch) (D : va_G) (cA : ClassId) (ρ : Nat → Nat) (hI : mz_I ρ mz_lay1) (M : mz_Mem) (s : Int32) : mz_M l D vwCl cA ρ mz_lay1 yX7_countScenesOf cX7_countScenesOf 4 (some .int) 2 43 [.ref 15, .int s] M (some (.int (g_X7_countScenesOf M s))) M := by
  refine mz_in0 (by decide +kernel) (Nat.le_of_ble_eq_true rfl) (fun Γ C E => ?_)
  have E' := (⟨_, _, _, E⟩ : ∃ Qc mc ms, mz_E Γ Qc mc ms (mz_A ρ mz_lay1))
  refine mz_go FLX7 KLX7 C [(0, .iconst 0), (1, .istore_n 2), (2, .iconst 0), (3, .istore_n 3)] (by decide +kernel) (pc' := 4) (L' := [(3, .int 0), (2, .int 0), (0, .ref 15), (1, .int s)]) (st' := []) rfl ?_
  refine mz_sub (L' := [(0, .ref 15), (1, .int s), (2, .int 0), (3, .int 0)]) (by simp) ?_
  refine mz_loop (M 15 2) (g_X7_countScenesOf_1 M s) (fun (i : Int32) (a : Int32) => mz_W Γ ρ 4 0 0 (mz_H D vwCl cA ρ mz_lay1 M) 4 [(0, .ref 15), (1, .int s), (2, .int a), (3, .int i)] []) 0 (fun i2 a3 hi4 hx5 hb6 => ?_)
  refine mz_go FLX7 KLX7 C [(4, .iload_n 3), (5, .aload_n 0), (6, .getfield 49)] (by decide +kernel) (pc' := 9) (L' := [(0, .ref 15), (1, .int s), (2, .int a3), (3, .int i2)]) (st' := [.int (M 15 2), .int i2]) rfl ?_
  refine mz_ige (off := 21) (tgt := 30) C (by decide +kernel) (by decide) (fun h1 => ?_) (fun h1 => ?_)
  · have e10 := hx5 h1
    subst e10
    refine mz_sub (L' := [(0, .ref 15), (1, .int s), (2, .int (mz_fr (M 15 2) (g_X7_countScenesOf_1 M s) 0))]) (by simp) ?_
    refine mz_go FLX7 KLX7 C [(30, .iload_n 2)] (by decide +kernel) (pc' := 31) (L' := [(0, .ref 15), (1, .int s), (2, .int (mz_fr (M 15 2) (g_X7_countScenesOf_1 M s) 0))]) (st' := [.int (mz_fr (M 15 2) (g_X7_countScenesOf_1 M s) 0)]) rfl ?_
    exact mz_iret C E (by decide +kernel) (rfl) (rfl)
  · refine mz_go FLX7 KLX7 C [(12, .aload_n 0), (13, .iload_n 3), (14, .iload_n 1)] (by decide +kernel) (pc' := 15) (L' := [(0, .ref 15), (1, .int s), (2, .int a3), (3, .int i2)]) (st' := [.int s, .int i2, .ref 15]) rfl ?_
    refine mz_callV (As := [.int i2, .int s]) (rest := []) C E' (f_X7_has l D cA ρ hI M i2 s) hy_X7_has wl_X7_56 rfl rfl rfl ⟨Nat.le_of_ble_eq_true rfl, Nat.le_of_ble_eq_true rfl⟩ ⟨Nat.le_refl _, Nat.le_refl _⟩ (Nat.le_of_ble_eq_true rfl) (by decide +kernel) ?_ rfl
    refine mz_zeq (off := 6) (tgt := 24) C (by decide +kernel) (by decide) (fun h11 => ?_) (fun h11 => ?_)
    · refine mz_go FLX7 KLX7 C [(24, .iinc 3 1), (27, .goto (-23))] (by decide +kernel) (pc' := 4) (L' := [(3, .int (i2 + 1)), (0, .ref 15), (1, .int s), (2, .int a3)]) (st' := []) rfl ?_
      have hb12 := hb6 h1
      rw [show g_X7_countScenesOf_1 M s i2 a3 = a3 from by unfold g_X7_countScenesOf_1; rw [if_pos h11]] at hb12
      exact mz_sub (by simp) hb12
    · refine mz_go FLX7 KLX7 C [(21, .iinc 2 1), (24, .iinc 3 1), (27, .goto (-23))] (by decide +kernel) (pc' := 4) (L' := [(3, .int (i2 + 1)), (2, .int (a3 + 1)), (0, .ref 15), (1, .int s)]) (st' := []) rfl ?_
      have hb13 := hb6 h1
      rw [show g_X7_countScenesOf_1 M s i2 a3 = a3 + 1 from by unfold g_X7_countScenesOf_1; rw [if_neg h11]] at hb13
      exact mz_sub (by simp) hb13
def g_X7_overlapsSceneOf_1 (M : mz_Mem) (s : Int32) (f : Int32) (d : Int32) (i6 : Int32) : Bool := if ((mz_rg 12 (M 23) i6) + (mz_rg 12 (M 25) i6)) ≤ f then false else if (f + d) ≤ (mz_rg 12 (M 23) i6) then false else if ((mz_rg 12 (M 27) i6) &&& s) = 0 then false else true
def g_X7_overlapsSceneOf (M : mz_Mem) (s : Int32) (f : Int32) (d : Int32) : Int32 := (match mz_find (M 15 2) (g_X7_overlapsSceneOf_1 M s f d) with | some i6 => 1 | none => 0)
set_option maxHeartbeats 4000000 in
theorem f_X7_overlapsSceneOf (l : Launch) (D : va_G) (cA : ClassId) (ρ : Nat → Nat) (hI : mz_I ρ mz_lay1) (M : mz_Mem) (s : Int32) (f : Int32) (d : Int32) : mz_M l D vwCl cA ρ mz_lay1 yX7_overlapsSceneOf cX7_overlapsSceneOf 7 (some .boolean) 1 21 [.ref 15, .int s, .int f, .int d] M (some (.int (g_X7_overlapsSceneOf M s f d))) M := by
  refine mz_in0 (by decide +kernel) (Nat.le_of_ble_eq_true rfl) (fun Γ C E => ?_)
  have E' := (⟨_, _, _, E⟩ : ∃ Qc mc ms, mz_E Γ Qc mc ms (mz_A ρ mz_lay1))
  refine mz_go FLX7 KLX7 C [(0, .iconst 0), (1, .istore 4)] (by decide +kernel) (pc' := 3) (L' := [(4, .int 0), (0, .ref 15), (1, .int s), (2, .int f), (3, .int d)]) (st' := []) rfl ?_
  refine mz_sub (L' := [(0, .ref 15), (1, .int s), (2, .int f), (3, .int d), (4, .int 0)]) (by simp) ?_
  refine mz_loopf (M 15 2) (g_X7_overlapsSceneOf_1 M s f d) (fun i => mz_W Γ ρ 7 0 0 (mz_H D vwCl cA ρ mz_lay1 M) 3 [(0, .ref 15), (1, .int s), (2, .int f), (3, .int d), (4, .int i)] []) (fun i6 hi5 hx3 hp4 ih2 => ?_)
  refine mz_go FLX7 KLX7 C [(3, .iload 4), (5, .aload_n 0), (6, .getfield 49)] (by decide +kernel) (pc' := 9) (L' := [(0, .ref 15), (1, .int s), (2, .int f), (3, .int d), (4, .int i6)]) (st' := [.int (M 15 2), .int i6]) rfl ?_
  refine mz_ige (off := 72) (tgt := 81) C (by decide +kernel) (by decide) (fun h1 => ?_) (fun h1 => ?_)
  · have hf7 := hx3 h1
    refine mz_sub (L' := [(0, .ref 15), (1, .int s), (2, .int f), (3, .int d)]) (by simp) ?_
    refine mz_go FLX7 KLX7 C [(81, .iconst 0)] (by decide +kernel) (pc' := 82) (L' := [(0, .ref 15), (1, .int s), (2, .int f), (3, .int d)]) (st' := [.int 0]) rfl ?_
    exact mz_zret C E (by decide +kernel) (Or.inl rfl) (by unfold g_X7_overlapsSceneOf; rw [hf7]; try rfl) (rfl)
  · refine mz_go FLX7 KLX7 C [(12, .aload_n 0), (13, .getfield 26), (16, .iload 4)] (by decide +kernel) (pc' := 18) (L' := [(0, .ref 15), (1, .int s), (2, .int f), (3, .int d), (4, .int i6)]) (st' := [.int i6, .ref 22]) rfl ?_
    refine mz_callV (As := [.int i6]) (rest := []) C E' (f_Row_get l D cA ρ hI (r := 22) (a := 23) (n := 12) rfl rfl (by decide) M i6) hy_X6_get wl_X7_52 rfl rfl rfl ⟨Nat.le_of_ble_eq_true rfl, Nat.le_of_ble_eq_true rfl⟩ ⟨Nat.le_refl _, Nat.le_refl _⟩ (Nat.le_of_ble_eq_true rfl) (by decide +kernel) ?_ rfl
    refine mz_go FLX7 KLX7 C [(21, .istore 5), (23, .iload_n 2), (24, .iload 5), (26, .aload_n 0), (27, .getfield 29), (30, .iload 4)] (by decide +kernel) (pc' := 32) (L' := [(5, .int (mz_rg 12 (M 23) i6)), (0, .ref 15), (1, .int s), (2, .int f), (3, .int d), (4, .int i6)]) (st' := [.int i6, .ref 24, .int (mz_rg 12 (M 23) i6), .int f]) rfl ?_
    refine mz_callV (As := [.int i6]) (rest := [.int (mz_rg 12 (M 23) i6), .int f]) C E' (f_Row_get l D cA ρ hI (r := 24) (a := 25) (n := 12) rfl rfl (by decide) M i6) hy_X6_get wl_X7_52 rfl rfl rfl ⟨Nat.le_of_ble_eq_true rfl, Nat.le_of_ble_eq_true rfl⟩ ⟨Nat.le_refl _, Nat.le_refl _⟩ (Nat.le_of_ble_eq_true rfl) (by decide +kernel) ?_ rfl
    refine mz_go FLX7 KLX7 C [(35, .iadd)] (by decide +kernel) (pc' := 36) (L' := [(5, .int (mz_rg 12 (M 23) i6)), (0, .ref 15), (1, .int s), (2, .int f), (3, .int d), (4, .int i6)]) (st' := [.int ((mz_rg 12 (M 23) i6) + (mz_rg 12 (M 25) i6)), .int f]) rfl ?_
    refine mz_ige (off := 15) (tgt := 51) C (by decide +kernel) (by decide) (fun h8 => ?_) (fun h8 => ?_)
    · refine mz_go FLX7 KLX7 C [(51, .iconst 0), (52, .istore 6), (54, .iload 6)] (by decide +kernel) (pc' := 56) (L' := [(6, .int 0), (5, .int (mz_rg 12 (M 23) i6)), (0, .ref 15), (1, .int s), (2, .int f), (3, .int d), (4, .int i6)]) (st' := [.int 0]) rfl ?_
      refine mz_zeq (off := 19) (tgt := 75) C (by decide +kernel) (by decide) (fun _ => ?_) (fun h9 => absurd h9 (by decide))
      refine mz_go FLX7 KLX7 C [(75, .iinc 4 1), (78, .goto (-75))] (by decide +kernel) (pc' := 3) (L' := [(4, .int (i6 + 1)), (6, .int 0), (5, .int (mz_rg 12 (M 23) i6)), (0, .ref 15), (1, .int s), (2, .int f), (3, .int d)]) (st' := []) rfl ?_
      exact mz_sub (by simp) (ih2 h1 (by unfold g_X7_overlapsSceneOf_1; rw [if_pos h8]))
    · refine mz_go FLX7 KLX7 C [(39, .iload 5), (41, .iload_n 2), (42, .iload_n 3), (43, .iadd)] (by decide +kernel) (pc' := 44) (L' := [(5, .int (mz_rg 12 (M 23) i6)), (0, .ref 15), (1, .int s), (2, .int f), (3, .int d), (4, .int i6)]) (st' := [.int (f + d), .int (mz_rg 12 (M 23) i6)]) rfl ?_
      refine mz_ige (off := 7) (tgt := 51) C (by decide +kernel) (by decide) (fun h10 => ?_) (fun h10 => ?_)
      · refine mz_go FLX7 KLX7 C [(51, .iconst 0), (52, .istore 6), (54, .iload 6)] (by decide +kernel) (pc' := 56) (L' := [(6, .int 0), (5, .int (mz_rg 12 (M 23) i6)), (0, .ref 15), (1, .int s), (2, .int f), (3, .int d), (4, .int i6)]) (st' := [.int 0]) rfl ?_
        refine mz_zeq (off := 19) (tgt := 75) C (by decide +kernel) (by decide) (fun _ => ?_) (fun h11 => absurd h11 (by decide))
        refine mz_go FLX7 KLX7 C [(75, .iinc 4 1), (78, .goto (-75))] (by decide +kernel) (pc' := 3) (L' := [(4, .int (i6 + 1)), (6, .int 0), (5, .int (mz_rg 12 (M 23) i6)), (0, .ref 15), (1, .int s), (2, .int f), (3, .int d)]) (st' := []) rfl ?_
        exact mz_sub (by simp) (ih2 h1 (by unfold g_X7_overlapsSceneOf_1; rw [if_neg h8, if_pos h10]))
      · refine mz_go FLX7 KLX7 C [(47, .iconst 1), (48, .goto 4), (52, .istore 6), (54, .iload 6)] (by decide +kernel) (pc' := 56) (L' := [(6, .int 1), (5, .int (mz_rg 12 (M 23) i6)), (0, .ref 15), (1, .int s), (2, .int f), (3, .int d), (4, .int i6)]) (st' := [.int 1]) rfl ?_
        refine mz_zeq (off := 19) (tgt := 75) C (by decide +kernel) (by decide) (fun h12 => absurd h12 (by decide)) (fun _ => ?_)
        refine mz_go FLX7 KLX7 C [(59, .aload_n 0), (60, .getfield 32), (63, .iload 4)] (by decide +kernel) (pc' := 65) (L' := [(6, .int 1), (5, .int (mz_rg 12 (M 23) i6)), (0, .ref 15), (1, .int s), (2, .int f), (3, .int d), (4, .int i6)]) (st' := [.int i6, .ref 26]) rfl ?_
        refine mz_callV (As := [.int i6]) (rest := []) C E' (f_Row_get l D cA ρ hI (r := 26) (a := 27) (n := 12) rfl rfl (by decide) M i6) hy_X6_get wl_X7_52 rfl rfl rfl ⟨Nat.le_of_ble_eq_true rfl, Nat.le_of_ble_eq_true rfl⟩ ⟨Nat.le_refl _, Nat.le_refl _⟩ (Nat.le_of_ble_eq_true rfl) (by decide +kernel) ?_ rfl
        refine mz_go FLX7 KLX7 C [(68, .iload_n 1), (69, .iand)] (by decide +kernel) (pc' := 70) (L' := [(6, .int 1), (5, .int (mz_rg 12 (M 23) i6)), (0, .ref 15), (1, .int s), (2, .int f), (3, .int d), (4, .int i6)]) (st' := [.int ((mz_rg 12 (M 27) i6) &&& s)]) rfl ?_
        refine mz_zeq (off := 5) (tgt := 75) C (by decide +kernel) (by decide) (fun h13 => ?_) (fun h13 => ?_)
        · refine mz_go FLX7 KLX7 C [(75, .iinc 4 1), (78, .goto (-75))] (by decide +kernel) (pc' := 3) (L' := [(4, .int (i6 + 1)), (6, .int 1), (5, .int (mz_rg 12 (M 23) i6)), (0, .ref 15), (1, .int s), (2, .int f), (3, .int d)]) (st' := []) rfl ?_
          exact mz_sub (by simp) (ih2 h1 (by unfold g_X7_overlapsSceneOf_1; rw [if_neg h8, if_neg h10, if_pos h13]))
        · refine mz_go FLX7 KLX7 C [(73, .iconst 1)] (by decide +kernel) (pc' := 74) (L' := [(6, .int 1), (5, .int (mz_rg 12 (M 23) i6)), (0, .ref 15), (1, .int s), (2, .int f), (3, .int d), (4, .int i6)]) (st' := [.int 1]) rfl ?_
          have hf14 := hp4 h1 (by unfold g_X7_overlapsSceneOf_1; rw [if_neg h8, if_neg h10, if_neg h13])
          exact mz_zret C E (by decide +kernel) (Or.inr rfl) (by unfold g_X7_overlapsSceneOf; rw [hf14]; try rfl) (rfl)
def g_X7_overlap_1 (M : mz_Mem) (t : Int32) (u : Int32) (i6 : Int32) : Bool := if (g_X7_has M i6 (1 <<< (t &&& 31))) = 0 then false else if (g_X7_overlapsSceneOf M (1 <<< (u &&& 31)) (mz_rg 12 (M 23) i6) (mz_rg 12 (M 25) i6)) = 0 then false else true
def g_X7_overlap (M : mz_Mem) (t : Int32) (u : Int32) : Int32 := (match mz_find (M 15 2) (g_X7_overlap_1 M t u) with | some i6 => 1 | none => 0)
set_option maxHeartbeats 4000000 in
theorem f_X7_overlap (l : Launch) (D : va_G) (cA : ClassId) (ρ : Nat → Nat) (hI : mz_I ρ mz_lay1) (M : mz_Mem) (t : Int32) (u : Int32) : mz_M l D vwCl cA ρ mz_lay1 yX7_overlap cX7_overlap 4 (some .boolean) 2 47 [.ref 15, .int t, .int u] M (some (.int (g_X7_overlap M t u))) M := by
  refine mz_in0 (by decide +kernel) (Nat.le_of_ble_eq_true rfl) (fun Γ C E => ?_)
  have E' := (⟨_, _, _, E⟩ : ∃ Qc mc ms, mz_E Γ Qc mc ms (mz_A ρ mz_lay1))
  refine mz_go FLX7 KLX7 C [(0, .iconst 0), (1, .istore_n 3)] (by decide +kernel) (pc' := 2) (L' := [(3, .int 0), (0, .ref 15), (1, .int t), (2, .int u)]) (st' := []) rfl ?_
  refine mz_sub (L' := [(0, .ref 15), (1, .int t), (2, .int u), (3, .int 0)]) (by simp) ?_
  refine mz_loopf (M 15 2) (g_X7_overlap_1 M t u) (fun i => mz_W Γ ρ 4 0 0 (mz_H D vwCl cA ρ mz_lay1 M) 2 [(0, .ref 15), (1, .int t), (2, .int u), (3, .int i)] []) (fun i6 hi5 hx3 hp4 ih2 => ?_)
  refine mz_go FLX7 KLX7 C [(2, .iload_n 3), (3, .aload_n 0), (4, .getfield 49)] (by decide +kernel) (pc' := 7) (L' := [(0, .ref 15), (1, .int t), (2, .int u), (3, .int i6)]) (st' := [.int (M 15 2), .int i6]) rfl ?_
  refine mz_ige (off := 48) (tgt := 55) C (by decide +kernel) (by decide) (fun h1 => ?_) (fun h1 => ?_)
  · have hf7 := hx3 h1
    refine mz_sub (L' := [(0, .ref 15), (1, .int t), (2, .int u)]) (by simp) ?_
    refine mz_go FLX7 KLX7 C [(55, .iconst 0)] (by decide +kernel) (pc' := 56) (L' := [(0, .ref 15), (1, .int t), (2, .int u)]) (st' := [.int 0]) rfl ?_
    exact mz_zret C E (by decide +kernel) (Or.inl rfl) (by unfold g_X7_overlap; rw [hf7]; try rfl) (rfl)
  · refine mz_go FLX7 KLX7 C [(10, .aload_n 0), (11, .iload_n 3), (12, .iconst 1), (13, .iload_n 1), (14, .ishl)] (by decide +kernel) (pc' := 15) (L' := [(0, .ref 15), (1, .int t), (2, .int u), (3, .int i6)]) (st' := [.int (1 <<< (t &&& 31)), .int i6, .ref 15]) rfl ?_
    refine mz_callV (As := [.int i6, .int (1 <<< (t &&& 31))]) (rest := []) C E' (f_X7_has l D cA ρ hI M i6 (1 <<< (t &&& 31))) hy_X7_has wl_X7_56 rfl rfl rfl ⟨Nat.le_of_ble_eq_true rfl, Nat.le_of_ble_eq_true rfl⟩ ⟨Nat.le_refl _, Nat.le_refl _⟩ (Nat.le_of_ble_eq_true rfl) (by decide +kernel) ?_ rfl
    refine mz_zeq (off := 31) (tgt := 49) C (by decide +kernel) (by decide) (fun h8 => ?_) (fun h8 => ?_)
    · refine mz_go FLX7 KLX7 C [(49, .iinc 3 1), (52, .goto (-50))] (by decide +kernel) (pc' := 2) (L' := [(3, .int (i6 + 1)), (0, .ref 15), (1, .int t), (2, .int u)]) (st' := []) rfl ?_
      exact mz_sub (by simp) (ih2 h1 (by unfold g_X7_overlap_1; rw [if_pos h8]))
    · refine mz_go FLX7 KLX7 C [(21, .aload_n 0), (22, .iconst 1), (23, .iload_n 2), (24, .ishl), (25, .aload_n 0), (26, .getfield 26), (29, .iload_n 3)] (by decide +kernel) (pc' := 30) (L' := [(0, .ref 15), (1, .int t), (2, .int u), (3, .int i6)]) (st' := [.int i6, .ref 22, .int (1 <<< (u &&& 31)), .ref 15]) rfl ?_
      refine mz_callV (As := [.int i6]) (rest := [.int (1 <<< (u &&& 31)), .ref 15]) C E' (f_Row_get l D cA ρ hI (r := 22) (a := 23) (n := 12) rfl rfl (by decide) M i6) hy_X6_get wl_X7_52 rfl rfl rfl ⟨Nat.le_of_ble_eq_true rfl, Nat.le_of_ble_eq_true rfl⟩ ⟨Nat.le_refl _, Nat.le_refl _⟩ (Nat.le_of_ble_eq_true rfl) (by decide +kernel) ?_ rfl
      refine mz_go FLX7 KLX7 C [(33, .aload_n 0), (34, .getfield 29), (37, .iload_n 3)] (by decide +kernel) (pc' := 38) (L' := [(0, .ref 15), (1, .int t), (2, .int u), (3, .int i6)]) (st' := [.int i6, .ref 24, .int (mz_rg 12 (M 23) i6), .int (1 <<< (u &&& 31)), .ref 15]) rfl ?_
      refine mz_callV (As := [.int i6]) (rest := [.int (mz_rg 12 (M 23) i6), .int (1 <<< (u &&& 31)), .ref 15]) C E' (f_Row_get l D cA ρ hI (r := 24) (a := 25) (n := 12) rfl rfl (by decide) M i6) hy_X6_get wl_X7_52 rfl rfl rfl ⟨Nat.le_of_ble_eq_true rfl, Nat.le_of_ble_eq_true rfl⟩ ⟨Nat.le_refl _, Nat.le_refl _⟩ (Nat.le_of_ble_eq_true rfl) (by decide +kernel) ?_ rfl
      refine mz_callV (As := [.int (1 <<< (u &&& 31)), .int (mz_rg 12 (M 23) i6), .int (mz_rg 12 (M 25) i6)]) (rest := []) C E' (f_X7_overlapsSceneOf l D cA ρ hI M (1 <<< (u &&& 31)) (mz_rg 12 (M 23) i6) (mz_rg 12 (M 25) i6)) hy_X7_overlapsSceneOf wl_X7_60 rfl rfl rfl ⟨Nat.le_of_ble_eq_true rfl, Nat.le_of_ble_eq_true rfl⟩ ⟨Nat.le_refl _, Nat.le_refl _⟩ (Nat.le_of_ble_eq_true rfl) (by decide +kernel) ?_ rfl
      refine mz_zeq (off := 5) (tgt := 49) C (by decide +kernel) (by decide) (fun h9 => ?_) (fun h9 => ?_)
      · refine mz_go FLX7 KLX7 C [(49, .iinc 3 1), (52, .goto (-50))] (by decide +kernel) (pc' := 2) (L' := [(3, .int (i6 + 1)), (0, .ref 15), (1, .int t), (2, .int u)]) (st' := []) rfl ?_
        exact mz_sub (by simp) (ih2 h1 (by unfold g_X7_overlap_1; rw [if_neg h8, if_pos h9]))
      · refine mz_go FLX7 KLX7 C [(47, .iconst 1)] (by decide +kernel) (pc' := 48) (L' := [(0, .ref 15), (1, .int t), (2, .int u), (3, .int i6)]) (st' := [.int 1]) rfl ?_
        have hf10 := hp4 h1 (by unfold g_X7_overlap_1; rw [if_neg h8, if_neg h9])
        exact mz_zret C E (by decide +kernel) (Or.inr rfl) (by unfold g_X7_overlap; rw [hf10]; try rfl) (rfl)
def g_X7_addTrack (M : mz_Mem) (h : Int32) : Int32 × mz_Mem := ((M 15 0), (mz_s (mz_s M 15 (upd (M 15) 0 ((M 15 0) + 1))) 17 (mz_rs 5 ((mz_s M 15 (upd (M 15) 0 ((M 15 0) + 1))) 17) (M 15 0) h)))
set_option maxHeartbeats 4000000 in
theorem f_X7_addTrack (l : Launch) (D : va_G) (cA : ClassId) (ρ : Nat → Nat) (hI : mz_I ρ mz_lay1) (M : mz_Mem) (h : Int32) : mz_M l D vwCl cA ρ mz_lay1 yX7_addTrack cX7_addTrack 3 (some .int) 1 22 [.ref 15, .int h] M (some (.int (g_X7_addTrack M h).1)) (g_X7_addTrack M h).2 := by
  refine mz_in0 (by decide +kernel) (Nat.le_of_ble_eq_true rfl) (fun Γ C E => ?_)
  have E' := (⟨_, _, _, E⟩ : ∃ Qc mc ms, mz_E Γ Qc mc ms (mz_A ρ mz_lay1))
  refine mz_go FLX7 KLX7 C [(0, .aload_n 0), (1, .getfield 38), (4, .istore_n 2), (5, .aload_n 0), (6, .dup), (7, .getfield 38), (10, .iconst 1), (11, .iadd)] (by decide +kernel) (pc' := 12) (L' := [(2, .int (M 15 0)), (0, .ref 15), (1, .int h)]) (st' := [.int ((M 15 0) + 1), .ref 15]) rfl ?_
  refine mz_put (id := 15) (ci := 7) (j := 0) (T := TX7) (N := 10) C E' hI rfl rfl rfl (by decide) iu_X7 tyX7 tyX7_ok nmX7 wf_X7_38 rfl (by decide +kernel) (by decide +kernel) ?_
  refine mz_go FLX7 KLX7 C [(15, .aload_n 0), (16, .getfield 14), (19, .iload_n 2), (20, .iload_n 1)] (by decide +kernel) (pc' := 21) (L' := [(2, .int (M 15 0)), (0, .ref 15), (1, .int h)]) (st' := [.int h, .int (M 15 0), .ref 16]) rfl ?_
  refine mz_callV (As := [.int (M 15 0), .int h]) (rest := []) C E' (f_Row_set l D cA ρ hI (r := 16) (a := 17) (n := 5) rfl rfl (by decide) (mz_s M 15 (upd (M 15) 0 ((M 15 0) + 1))) (M 15 0) h) hy_X6_set wl_X7_42 rfl rfl rfl ⟨Nat.le_of_ble_eq_true rfl, Nat.le_of_ble_eq_true rfl⟩ ⟨Nat.le_refl _, Nat.le_refl _⟩ (Nat.le_of_ble_eq_true rfl) (by decide +kernel) ?_ rfl
  refine mz_go FLX7 KLX7 C [(24, .iload_n 2)] (by decide +kernel) (pc' := 25) (L' := [(2, .int (M 15 0)), (0, .ref 15), (1, .int h)]) (st' := [.int (M 15 0)]) rfl ?_
  exact mz_iret C E (by decide +kernel) (rfl) (rfl)
def g_X7_addProp (M : mz_Mem) (h : Int32) : Int32 × mz_Mem := ((M 15 1), (mz_s (mz_s M 15 (upd (M 15) 1 ((M 15 1) + 1))) 19 (mz_rs 4 ((mz_s M 15 (upd (M 15) 1 ((M 15 1) + 1))) 19) (M 15 1) h)))
set_option maxHeartbeats 4000000 in
theorem f_X7_addProp (l : Launch) (D : va_G) (cA : ClassId) (ρ : Nat → Nat) (hI : mz_I ρ mz_lay1) (M : mz_Mem) (h : Int32) : mz_M l D vwCl cA ρ mz_lay1 yX7_addProp cX7_addProp 3 (some .int) 1 22 [.ref 15, .int h] M (some (.int (g_X7_addProp M h).1)) (g_X7_addProp M h).2 := by
  refine mz_in0 (by decide +kernel) (Nat.le_of_ble_eq_true rfl) (fun Γ C E => ?_)
  have E' := (⟨_, _, _, E⟩ : ∃ Qc mc ms, mz_E Γ Qc mc ms (mz_A ρ mz_lay1))
  refine mz_go FLX7 KLX7 C [(0, .aload_n 0), (1, .getfield 46), (4, .istore_n 2), (5, .aload_n 0), (6, .dup), (7, .getfield 46), (10, .iconst 1), (11, .iadd)] (by decide +kernel) (pc' := 12) (L' := [(2, .int (M 15 1)), (0, .ref 15), (1, .int h)]) (st' := [.int ((M 15 1) + 1), .ref 15]) rfl ?_
  refine mz_put (id := 15) (ci := 7) (j := 1) (T := TX7) (N := 10) C E' hI rfl rfl rfl (by decide) iu_X7 tyX7 tyX7_ok nmX7 wf_X7_46 rfl (by decide +kernel) (by decide +kernel) ?_
  refine mz_go FLX7 KLX7 C [(15, .aload_n 0), (16, .getfield 20), (19, .iload_n 2), (20, .iload_n 1)] (by decide +kernel) (pc' := 21) (L' := [(2, .int (M 15 1)), (0, .ref 15), (1, .int h)]) (st' := [.int h, .int (M 15 1), .ref 18]) rfl ?_
  refine mz_callV (As := [.int (M 15 1), .int h]) (rest := []) C E' (f_Row_set l D cA ρ hI (r := 18) (a := 19) (n := 4) rfl rfl (by decide) (mz_s M 15 (upd (M 15) 1 ((M 15 1) + 1))) (M 15 1) h) hy_X6_set wl_X7_42 rfl rfl rfl ⟨Nat.le_of_ble_eq_true rfl, Nat.le_of_ble_eq_true rfl⟩ ⟨Nat.le_refl _, Nat.le_refl _⟩ (Nat.le_of_ble_eq_true rfl) (by decide +kernel) ?_ rfl
  refine mz_go FLX7 KLX7 C [(24, .iload_n 2)] (by decide +kernel) (pc' := 25) (L' := [(2, .int (M 15 1)), (0, .ref 15), (1, .int h)]) (st' := [.int (M 15 1)]) rfl ?_
  exact mz_iret C E (by decide +kernel) (rfl) (rfl)
def g_X7_addScene (M : mz_Mem) (r : Int32) (s : Int32) (d : Int32) (t : Int32) (p : Int32) : Int32 × mz_Mem := ((M 15 2), (mz_s (mz_s (mz_s (mz_s (mz_s (mz_s M 15 (upd (M 15) 2 ((M 15 2) + 1))) 21 (mz_rs 12 ((mz_s M 15 (upd (M 15) 2 ((M 15 2) + 1))) 21) (M 15 2) r)) 23 (mz_rs 12 ((mz_s (mz_s M 15 (upd (M 15) 2 ((M 15 2) + 1))) 21 (mz_rs 12 ((mz_s M 15 (upd (M 15) 2 ((M 15 2) + 1))) 21) (M 15 2) r)) 23) (M 15 2) s)) 25 (mz_rs 12 ((mz_s (mz_s (mz_s M 15 (upd (M 15) 2 ((M 15 2) + 1))) 21 (mz_rs 12 ((mz_s M 15 (upd (M 15) 2 ((M 15 2) + 1))) 21) (M 15 2) r)) 23 (mz_rs 12 ((mz_s (mz_s M 15 (upd (M 15) 2 ((M 15 2) + 1))) 21 (mz_rs 12 ((mz_s M 15 (upd (M 15) 2 ((M 15 2) + 1))) 21) (M 15 2) r)) 23) (M 15 2) s)) 25) (M 15 2) d)) 27 (mz_rs 12 ((mz_s (mz_s (mz_s (mz_s M 15 (upd (M 15) 2 ((M 15 2) + 1))) 21 (mz_rs 12 ((mz_s M 15 (upd (M 15) 2 ((M 15 2) + 1))) 21) (M 15 2) r)) 23 (mz_rs 12 ((mz_s (mz_s M 15 (upd (M 15) 2 ((M 15 2) + 1))) 21 (mz_rs 12 ((mz_s M 15 (upd (M 15) 2 ((M 15 2) + 1))) 21) (M 15 2) r)) 23) (M 15 2) s)) 25 (mz_rs 12 ((mz_s (mz_s (mz_s M 15 (upd (M 15) 2 ((M 15 2) + 1))) 21 (mz_rs 12 ((mz_s M 15 (upd (M 15) 2 ((M 15 2) + 1))) 21) (M 15 2) r)) 23 (mz_rs 12 ((mz_s (mz_s M 15 (upd (M 15) 2 ((M 15 2) + 1))) 21 (mz_rs 12 ((mz_s M 15 (upd (M 15) 2 ((M 15 2) + 1))) 21) (M 15 2) r)) 23) (M 15 2) s)) 25) (M 15 2) d)) 27) (M 15 2) t)) 29 (mz_rs 12 ((mz_s (mz_s (mz_s (mz_s (mz_s M 15 (upd (M 15) 2 ((M 15 2) + 1))) 21 (mz_rs 12 ((mz_s M 15 (upd (M 15) 2 ((M 15 2) + 1))) 21) (M 15 2) r)) 23 (mz_rs 12 ((mz_s (mz_s M 15 (upd (M 15) 2 ((M 15 2) + 1))) 21 (mz_rs 12 ((mz_s M 15 (upd (M 15) 2 ((M 15 2) + 1))) 21) (M 15 2) r)) 23) (M 15 2) s)) 25 (mz_rs 12 ((mz_s (mz_s (mz_s M 15 (upd (M 15) 2 ((M 15 2) + 1))) 21 (mz_rs 12 ((mz_s M 15 (upd (M 15) 2 ((M 15 2) + 1))) 21) (M 15 2) r)) 23 (mz_rs 12 ((mz_s (mz_s M 15 (upd (M 15) 2 ((M 15 2) + 1))) 21 (mz_rs 12 ((mz_s M 15 (upd (M 15) 2 ((M 15 2) + 1))) 21) (M 15 2) r)) 23) (M 15 2) s)) 25) (M 15 2) d)) 27 (mz_rs 12 ((mz_s (mz_s (mz_s (mz_s M 15 (upd (M 15) 2 ((M 15 2) + 1))) 21 (mz_rs 12 ((mz_s M 15 (upd (M 15) 2 ((M 15 2) + 1))) 21) (M 15 2) r)) 23 (mz_rs 12 ((mz_s (mz_s M 15 (upd (M 15) 2 ((M 15 2) + 1))) 21 (mz_rs 12 ((mz_s M 15 (upd (M 15) 2 ((M 15 2) + 1))) 21) (M 15 2) r)) 23) (M 15 2) s)) 25 (mz_rs 12 ((mz_s (mz_s (mz_s M 15 (upd (M 15) 2 ((M 15 2) + 1))) 21 (mz_rs 12 ((mz_s M 15 (upd (M 15) 2 ((M 15 2) + 1))) 21) (M 15 2) r)) 23 (mz_rs 12 ((mz_s (mz_s M 15 (upd (M 15) 2 ((M 15 2) + 1))) 21 (mz_rs 12 ((mz_s M 15 (upd (M 15) 2 ((M 15 2) + 1))) 21) (M 15 2) r)) 23) (M 15 2) s)) 25) (M 15 2) d)) 27) (M 15 2) t)) 29) (M 15 2) p)))
set_option maxHeartbeats 4000000 in
theorem f_X7_addScene (l : Launch) (D : va_G) (cA : ClassId) (ρ : Nat → Nat) (hI : mz_I ρ mz_lay1) (M : mz_Mem) (r : Int32) (s : Int32) (d : Int32) (t : Int32) (p : Int32) : mz_M l D vwCl cA ρ mz_lay1 yX7_addScene cX7_addScene 7 (some .int) 1 22 [.ref 15, .int r, .int s, .int d, .int t, .int p] M (some (.int (g_X7_addScene M r s d t p).1)) (g_X7_addScene M r s d t p).2 := by
  refine mz_in0 (by decide +kernel) (Nat.le_of_ble_eq_true rfl) (fun Γ C E => ?_)
  have E' := (⟨_, _, _, E⟩ : ∃ Qc mc ms, mz_E Γ Qc mc ms (mz_A ρ mz_lay1))
  refine mz_go FLX7 KLX7 C [(0, .aload_n 0), (1, .getfield 49), (4, .istore 6), (6, .aload_n 0), (7, .dup), (8, .getfield 49), (11, .iconst 1), (12, .iadd)] (by decide +kernel) (pc' := 13) (L' := [(6, .int (M 15 2)), (0, .ref 15), (1, .int r), (2, .int s), (3, .int d), (4, .int t), (5, .int p)]) (st' := [.int ((M 15 2) + 1), .ref 15]) rfl ?_
  refine mz_put (id := 15) (ci := 7) (j := 2) (T := TX7) (N := 10) C E' hI rfl rfl rfl (by decide) iu_X7 tyX7 tyX7_ok nmX7 wf_X7_49 rfl (by decide +kernel) (by decide +kernel) ?_
  refine mz_go FLX7 KLX7 C [(16, .aload_n 0), (17, .getfield 23), (20, .iload 6), (22, .iload_n 1)] (by decide +kernel) (pc' := 23) (L' := [(6, .int (M 15 2)), (0, .ref 15), (1, .int r), (2, .int s), (3, .int d), (4, .int t), (5, .int p)]) (st' := [.int r, .int (M 15 2), .ref 20]) rfl ?_
  refine mz_callV (As := [.int (M 15 2), .int r]) (rest := []) C E' (f_Row_set l D cA ρ hI (r := 20) (a := 21) (n := 12) rfl rfl (by decide) (mz_s M 15 (upd (M 15) 2 ((M 15 2) + 1))) (M 15 2) r) hy_X6_set wl_X7_42 rfl rfl rfl ⟨Nat.le_of_ble_eq_true rfl, Nat.le_of_ble_eq_true rfl⟩ ⟨Nat.le_refl _, Nat.le_refl _⟩ (Nat.le_of_ble_eq_true rfl) (by decide +kernel) ?_ rfl
  refine mz_go FLX7 KLX7 C [(26, .aload_n 0), (27, .getfield 26), (30, .iload 6), (32, .iload_n 2)] (by decide +kernel) (pc' := 33) (L' := [(6, .int (M 15 2)), (0, .ref 15), (1, .int r), (2, .int s), (3, .int d), (4, .int t), (5, .int p)]) (st' := [.int s, .int (M 15 2), .ref 22]) rfl ?_
  refine mz_callV (As := [.int (M 15 2), .int s]) (rest := []) C E' (f_Row_set l D cA ρ hI (r := 22) (a := 23) (n := 12) rfl rfl (by decide) (mz_s (mz_s M 15 (upd (M 15) 2 ((M 15 2) + 1))) 21 (mz_rs 12 ((mz_s M 15 (upd (M 15) 2 ((M 15 2) + 1))) 21) (M 15 2) r)) (M 15 2) s) hy_X6_set wl_X7_42 rfl rfl rfl ⟨Nat.le_of_ble_eq_true rfl, Nat.le_of_ble_eq_true rfl⟩ ⟨Nat.le_refl _, Nat.le_refl _⟩ (Nat.le_of_ble_eq_true rfl) (by decide +kernel) ?_ rfl
  refine mz_go FLX7 KLX7 C [(36, .aload_n 0), (37, .getfield 29), (40, .iload 6), (42, .iload_n 3)] (by decide +kernel) (pc' := 43) (L' := [(6, .int (M 15 2)), (0, .ref 15), (1, .int r), (2, .int s), (3, .int d), (4, .int t), (5, .int p)]) (st' := [.int d, .int (M 15 2), .ref 24]) rfl ?_
  refine mz_callV (As := [.int (M 15 2), .int d]) (rest := []) C E' (f_Row_set l D cA ρ hI (r := 24) (a := 25) (n := 12) rfl rfl (by decide) (mz_s (mz_s (mz_s M 15 (upd (M 15) 2 ((M 15 2) + 1))) 21 (mz_rs 12 ((mz_s M 15 (upd (M 15) 2 ((M 15 2) + 1))) 21) (M 15 2) r)) 23 (mz_rs 12 ((mz_s (mz_s M 15 (upd (M 15) 2 ((M 15 2) + 1))) 21 (mz_rs 12 ((mz_s M 15 (upd (M 15) 2 ((M 15 2) + 1))) 21) (M 15 2) r)) 23) (M 15 2) s)) (M 15 2) d) hy_X6_set wl_X7_42 rfl rfl rfl ⟨Nat.le_of_ble_eq_true rfl, Nat.le_of_ble_eq_true rfl⟩ ⟨Nat.le_refl _, Nat.le_refl _⟩ (Nat.le_of_ble_eq_true rfl) (by decide +kernel) ?_ rfl
  refine mz_go FLX7 KLX7 C [(46, .aload_n 0), (47, .getfield 32), (50, .iload 6), (52, .iload 4)] (by decide +kernel) (pc' := 54) (L' := [(6, .int (M 15 2)), (0, .ref 15), (1, .int r), (2, .int s), (3, .int d), (4, .int t), (5, .int p)]) (st' := [.int t, .int (M 15 2), .ref 26]) rfl ?_
  refine mz_callV (As := [.int (M 15 2), .int t]) (rest := []) C E' (f_Row_set l D cA ρ hI (r := 26) (a := 27) (n := 12) rfl rfl (by decide) (mz_s (mz_s (mz_s (mz_s M 15 (upd (M 15) 2 ((M 15 2) + 1))) 21 (mz_rs 12 ((mz_s M 15 (upd (M 15) 2 ((M 15 2) + 1))) 21) (M 15 2) r)) 23 (mz_rs 12 ((mz_s (mz_s M 15 (upd (M 15) 2 ((M 15 2) + 1))) 21 (mz_rs 12 ((mz_s M 15 (upd (M 15) 2 ((M 15 2) + 1))) 21) (M 15 2) r)) 23) (M 15 2) s)) 25 (mz_rs 12 ((mz_s (mz_s (mz_s M 15 (upd (M 15) 2 ((M 15 2) + 1))) 21 (mz_rs 12 ((mz_s M 15 (upd (M 15) 2 ((M 15 2) + 1))) 21) (M 15 2) r)) 23 (mz_rs 12 ((mz_s (mz_s M 15 (upd (M 15) 2 ((M 15 2) + 1))) 21 (mz_rs 12 ((mz_s M 15 (upd (M 15) 2 ((M 15 2) + 1))) 21) (M 15 2) r)) 23) (M 15 2) s)) 25) (M 15 2) d)) (M 15 2) t) hy_X6_set wl_X7_42 rfl rfl rfl ⟨Nat.le_of_ble_eq_true rfl, Nat.le_of_ble_eq_true rfl⟩ ⟨Nat.le_refl _, Nat.le_refl _⟩ (Nat.le_of_ble_eq_true rfl) (by decide +kernel) ?_ rfl
  refine mz_go FLX7 KLX7 C [(57, .aload_n 0), (58, .getfield 35), (61, .iload 6), (63, .iload 5)] (by decide +kernel) (pc' := 65) (L' := [(6, .int (M 15 2)), (0, .ref 15), (1, .int r), (2, .int s), (3, .int d), (4, .int t), (5, .int p)]) (st' := [.int p, .int (M 15 2), .ref 28]) rfl ?_
  refine mz_callV (As := [.int (M 15 2), .int p]) (rest := []) C E' (f_Row_set l D cA ρ hI (r := 28) (a := 29) (n := 12) rfl rfl (by decide) (mz_s (mz_s (mz_s (mz_s (mz_s M 15 (upd (M 15) 2 ((M 15 2) + 1))) 21 (mz_rs 12 ((mz_s M 15 (upd (M 15) 2 ((M 15 2) + 1))) 21) (M 15 2) r)) 23 (mz_rs 12 ((mz_s (mz_s M 15 (upd (M 15) 2 ((M 15 2) + 1))) 21 (mz_rs 12 ((mz_s M 15 (upd (M 15) 2 ((M 15 2) + 1))) 21) (M 15 2) r)) 23) (M 15 2) s)) 25 (mz_rs 12 ((mz_s (mz_s (mz_s M 15 (upd (M 15) 2 ((M 15 2) + 1))) 21 (mz_rs 12 ((mz_s M 15 (upd (M 15) 2 ((M 15 2) + 1))) 21) (M 15 2) r)) 23 (mz_rs 12 ((mz_s (mz_s M 15 (upd (M 15) 2 ((M 15 2) + 1))) 21 (mz_rs 12 ((mz_s M 15 (upd (M 15) 2 ((M 15 2) + 1))) 21) (M 15 2) r)) 23) (M 15 2) s)) 25) (M 15 2) d)) 27 (mz_rs 12 ((mz_s (mz_s (mz_s (mz_s M 15 (upd (M 15) 2 ((M 15 2) + 1))) 21 (mz_rs 12 ((mz_s M 15 (upd (M 15) 2 ((M 15 2) + 1))) 21) (M 15 2) r)) 23 (mz_rs 12 ((mz_s (mz_s M 15 (upd (M 15) 2 ((M 15 2) + 1))) 21 (mz_rs 12 ((mz_s M 15 (upd (M 15) 2 ((M 15 2) + 1))) 21) (M 15 2) r)) 23) (M 15 2) s)) 25 (mz_rs 12 ((mz_s (mz_s (mz_s M 15 (upd (M 15) 2 ((M 15 2) + 1))) 21 (mz_rs 12 ((mz_s M 15 (upd (M 15) 2 ((M 15 2) + 1))) 21) (M 15 2) r)) 23 (mz_rs 12 ((mz_s (mz_s M 15 (upd (M 15) 2 ((M 15 2) + 1))) 21 (mz_rs 12 ((mz_s M 15 (upd (M 15) 2 ((M 15 2) + 1))) 21) (M 15 2) r)) 23) (M 15 2) s)) 25) (M 15 2) d)) 27) (M 15 2) t)) (M 15 2) p) hy_X6_set wl_X7_42 rfl rfl rfl ⟨Nat.le_of_ble_eq_true rfl, Nat.le_of_ble_eq_true rfl⟩ ⟨Nat.le_refl _, Nat.le_refl _⟩ (Nat.le_of_ble_eq_true rfl) (by decide +kernel) ?_ rfl
  refine mz_go FLX7 KLX7 C [(68, .iload 6)] (by decide +kernel) (pc' := 70) (L' := [(6, .int (M 15 2)), (0, .ref 15), (1, .int r), (2, .int s), (3, .int d), (4, .int t), (5, .int p)]) (st' := [.int (M 15 2)]) rfl ?_
  exact mz_iret C E (by decide +kernel) (rfl) (rfl)
end
section
def g_X1_enter (M : mz_Mem) (t : Int32) (h : Int32) : mz_Mem := (mz_s (mz_s M 35 (mz_rs 5 (M 35) t h)) 37 (mz_rs 5 ((mz_s M 35 (mz_rs 5 (M 35) t h)) 37) t (-1)))
theorem g_X1_enter_hs (M : mz_Mem) (t : Int32) (h : Int32) : mz_hs M (g_X1_enter M t h) := by
  unfold g_X1_enter
  exact (mz_hs_s (by decide)).trans (mz_hs_s (by decide))

set_option maxHeartbeats 4000000 in
theorem f_X1_enter (l : Launch) (D : va_G) (cA : ClassId) (ρ : Nat → Nat) (hI : mz_I ρ mz_lay1) (M : mz_Mem) (t : Int32) (h : Int32) : mz_M l D vwCl cA ρ mz_lay1 yX1_enter cX1_enter 3 none 1 22 [.ref 33, .int t, .int h] M none (g_X1_enter M t h) := by
  refine mz_in0 (by decide +kernel) (Nat.le_of_ble_eq_true rfl) (fun Γ C E => ?_)
  have E' := (⟨_, _, _, E⟩ : ∃ Qc mc ms, mz_E Γ Qc mc ms (mz_A ρ mz_lay1))
  refine mz_go FLX1 KLX1 C [(0, .aload_n 0), (1, .getfield 14), (4, .iload_n 1), (5, .iload_n 2)] (by decide +kernel) (pc' := 6) (L' := [(0, .ref 33), (1, .int t), (2, .int h)]) (st' := [.int h, .int t, .ref 34]) rfl ?_
  refine mz_callV (As := [.int t, .int h]) (rest := []) C E' (f_Row_set l D cA ρ hI (r := 34) (a := 35) (n := 5) rfl rfl (by decide) M t h) hy_X6_set wl_X1_34 rfl rfl rfl ⟨Nat.le_of_ble_eq_true rfl, Nat.le_of_ble_eq_true rfl⟩ ⟨Nat.le_refl _, Nat.le_refl _⟩ (Nat.le_of_ble_eq_true rfl) (by decide +kernel) ?_ rfl
  refine mz_go FLX1 KLX1 C [(9, .aload_n 0), (10, .getfield 20), (13, .iload_n 1), (14, .iconst (-1))] (by decide +kernel) (pc' := 15) (L' := [(0, .ref 33), (1, .int t), (2, .int h)]) (st' := [.int (-1), .int t, .ref 36]) rfl ?_
  refine mz_callV (As := [.int t, .int (-1)]) (rest := []) C E' (f_Row_set l D cA ρ hI (r := 36) (a := 37) (n := 5) rfl rfl (by decide) (mz_s M 35 (mz_rs 5 (M 35) t h)) t (-1)) hy_X6_set wl_X1_34 rfl rfl rfl ⟨Nat.le_of_ble_eq_true rfl, Nat.le_of_ble_eq_true rfl⟩ ⟨Nat.le_refl _, Nat.le_refl _⟩ (Nat.le_of_ble_eq_true rfl) (by decide +kernel) ?_ rfl
  exact mz_vret C E (by decide +kernel) (rfl)
def g_X1_startDouble (M : mz_Mem) (t : Int32) (b : Int32) : mz_Mem := (mz_s (mz_s M 37 (mz_rs 5 (M 37) t b)) 35 (mz_rs 5 ((mz_s M 37 (mz_rs 5 (M 37) t b)) 35) t (mz_rg 5 ((mz_s M 37 (mz_rs 5 (M 37) t b)) 35) b)))
theorem g_X1_startDouble_hs (M : mz_Mem) (t : Int32) (b : Int32) : mz_hs M (g_X1_startDouble M t b) := by
  unfold g_X1_startDouble
  exact (mz_hs_s (by decide)).trans (mz_hs_s (by decide))

set_option maxHeartbeats 4000000 in
theorem f_X1_startDouble (l : Launch) (D : va_G) (cA : ClassId) (ρ : Nat → Nat) (hI : mz_I ρ mz_lay1) (M : mz_Mem) (t : Int32) (b : Int32) : mz_M l D vwCl cA ρ mz_lay1 yX1_startDouble cX1_startDouble 3 none 1 22 [.ref 33, .int t, .int b] M none (g_X1_startDouble M t b) := by
  refine mz_in0 (by decide +kernel) (Nat.le_of_ble_eq_true rfl) (fun Γ C E => ?_)
  have E' := (⟨_, _, _, E⟩ : ∃ Qc mc ms, mz_E Γ Qc mc ms (mz_A ρ mz_lay1))
  refine mz_go FLX1 KLX1 C [(0, .aload_n 0), (1, .getfield 20), (4, .iload_n 1), (5, .iload_n 2)] (by decide +kernel) (pc' := 6) (L' := [(0, .ref 33), (1, .int t), (2, .int b)]) (st' := [.int b, .int t, .ref 36]) rfl ?_
  refine mz_callV (As := [.int t, .int b]) (rest := []) C E' (f_Row_set l D cA ρ hI (r := 36) (a := 37) (n := 5) rfl rfl (by decide) M t b) hy_X6_set wl_X1_34 rfl rfl rfl ⟨Nat.le_of_ble_eq_true rfl, Nat.le_of_ble_eq_true rfl⟩ ⟨Nat.le_refl _, Nat.le_refl _⟩ (Nat.le_of_ble_eq_true rfl) (by decide +kernel) ?_ rfl
  refine mz_go FLX1 KLX1 C [(9, .aload_n 0), (10, .getfield 14), (13, .iload_n 1), (14, .aload_n 0), (15, .getfield 14), (18, .iload_n 2)] (by decide +kernel) (pc' := 19) (L' := [(0, .ref 33), (1, .int t), (2, .int b)]) (st' := [.int b, .ref 34, .int t, .ref 34]) rfl ?_
  refine mz_callV (As := [.int b]) (rest := [.int t, .ref 34]) C E' (f_Row_get l D cA ρ hI (r := 34) (a := 35) (n := 5) rfl rfl (by decide) (mz_s M 37 (mz_rs 5 (M 37) t b)) b) hy_X6_get wl_X1_38 rfl rfl rfl ⟨Nat.le_of_ble_eq_true rfl, Nat.le_of_ble_eq_true rfl⟩ ⟨Nat.le_refl _, Nat.le_refl _⟩ (Nat.le_of_ble_eq_true rfl) (by decide +kernel) ?_ rfl
  refine mz_callV (As := [.int t, .int (mz_rg 5 ((mz_s M 37 (mz_rs 5 (M 37) t b)) 35) b)]) (rest := []) C E' (f_Row_set l D cA ρ hI (r := 34) (a := 35) (n := 5) rfl rfl (by decide) (mz_s M 37 (mz_rs 5 (M 37) t b)) t (mz_rg 5 ((mz_s M 37 (mz_rs 5 (M 37) t b)) 35) b)) hy_X6_set wl_X1_34 rfl rfl rfl ⟨Nat.le_of_ble_eq_true rfl, Nat.le_of_ble_eq_true rfl⟩ ⟨Nat.le_refl _, Nat.le_refl _⟩ (Nat.le_of_ble_eq_true rfl) (by decide +kernel) ?_ rfl
  exact mz_vret C E (by decide +kernel) (rfl)
def g_X1_endDouble (M : mz_Mem) (t : Int32) : mz_Mem := (mz_s M 37 (mz_rs 5 (M 37) t (-1)))
theorem g_X1_endDouble_hs (M : mz_Mem) (t : Int32) : mz_hs M (g_X1_endDouble M t) := by
  unfold g_X1_endDouble
  exact mz_hs_s (by decide)

set_option maxHeartbeats 4000000 in
theorem f_X1_endDouble (l : Launch) (D : va_G) (cA : ClassId) (ρ : Nat → Nat) (hI : mz_I ρ mz_lay1) (M : mz_Mem) (t : Int32) : mz_M l D vwCl cA ρ mz_lay1 yX1_endDouble cX1_endDouble 2 none 1 22 [.ref 33, .int t] M none (g_X1_endDouble M t) := by
  refine mz_in0 (by decide +kernel) (Nat.le_of_ble_eq_true rfl) (fun Γ C E => ?_)
  have E' := (⟨_, _, _, E⟩ : ∃ Qc mc ms, mz_E Γ Qc mc ms (mz_A ρ mz_lay1))
  refine mz_go FLX1 KLX1 C [(0, .aload_n 0), (1, .getfield 20), (4, .iload_n 1), (5, .iconst (-1))] (by decide +kernel) (pc' := 6) (L' := [(0, .ref 33), (1, .int t)]) (st' := [.int (-1), .int t, .ref 36]) rfl ?_
  refine mz_callV (As := [.int t, .int (-1)]) (rest := []) C E' (f_Row_set l D cA ρ hI (r := 36) (a := 37) (n := 5) rfl rfl (by decide) M t (-1)) hy_X6_set wl_X1_34 rfl rfl rfl ⟨Nat.le_of_ble_eq_true rfl, Nat.le_of_ble_eq_true rfl⟩ ⟨Nat.le_refl _, Nat.le_refl _⟩ (Nat.le_of_ble_eq_true rfl) (by decide +kernel) ?_ rfl
  exact mz_vret C E (by decide +kernel) (rfl)
def g_X1_anyIsPlayed_1 (M : mz_Mem) (i6 : Int32) : Bool := if (mz_rg 5 (M 37) i6) = (-1) then false else true
def g_X1_anyIsPlayed (M : mz_Mem) : Int32 := (match mz_find (M 15 0) (g_X1_anyIsPlayed_1 M) with | some i6 => 1 | none => 0)
set_option maxHeartbeats 4000000 in
theorem f_X1_anyIsPlayed (l : Launch) (D : va_G) (cA : ClassId) (ρ : Nat → Nat) (hI : mz_I ρ mz_lay1) (M : mz_Mem) : mz_M l D vwCl cA ρ mz_lay1 yX1_anyIsPlayed cX1_anyIsPlayed 2 (some .boolean) 1 21 [.ref 33] M (some (.int (g_X1_anyIsPlayed M))) M := by
  refine mz_in0 (by decide +kernel) (Nat.le_of_ble_eq_true rfl) (fun Γ C E => ?_)
  have E' := (⟨_, _, _, E⟩ : ∃ Qc mc ms, mz_E Γ Qc mc ms (mz_A ρ mz_lay1))
  refine mz_go FLX1 KLX1 C [(0, .iconst 0), (1, .istore_n 1)] (by decide +kernel) (pc' := 2) (L' := [(1, .int 0), (0, .ref 33)]) (st' := []) rfl ?_
  refine mz_sub (L' := [(0, .ref 33), (1, .int 0)]) (by simp) ?_
  refine mz_loopf (M 15 0) (g_X1_anyIsPlayed_1 M) (fun i => mz_W Γ ρ 2 0 0 (mz_H D vwCl cA ρ mz_lay1 M) 2 [(0, .ref 33), (1, .int i)] []) (fun i6 hi5 hx3 hp4 ih2 => ?_)
  refine mz_go FLX1 KLX1 C [(2, .iload_n 1), (3, .aload_n 0), (4, .getfield 26), (7, .getfield 42)] (by decide +kernel) (pc' := 10) (L' := [(0, .ref 33), (1, .int i6)]) (st' := [.int (M 15 0), .int i6]) rfl ?_
  refine mz_ige (off := 23) (tgt := 33) C (by decide +kernel) (by decide) (fun h1 => ?_) (fun h1 => ?_)
  · have hf7 := hx3 h1
    refine mz_sub (L' := [(0, .ref 33)]) (by simp) ?_
    refine mz_go FLX1 KLX1 C [(33, .iconst 0)] (by decide +kernel) (pc' := 34) (L' := [(0, .ref 33)]) (st' := [.int 0]) rfl ?_
    exact mz_zret C E (by decide +kernel) (Or.inl rfl) (by unfold g_X1_anyIsPlayed; rw [hf7]; try rfl) (rfl)
  · refine mz_go FLX1 KLX1 C [(13, .aload_n 0), (14, .getfield 20), (17, .iload_n 1)] (by decide +kernel) (pc' := 18) (L' := [(0, .ref 33), (1, .int i6)]) (st' := [.int i6, .ref 36]) rfl ?_
    refine mz_callV (As := [.int i6]) (rest := []) C E' (f_Row_get l D cA ρ hI (r := 36) (a := 37) (n := 5) rfl rfl (by decide) M i6) hy_X6_get wl_X1_38 rfl rfl rfl ⟨Nat.le_of_ble_eq_true rfl, Nat.le_of_ble_eq_true rfl⟩ ⟨Nat.le_refl _, Nat.le_refl _⟩ (Nat.le_of_ble_eq_true rfl) (by decide +kernel) ?_ rfl
    refine mz_go FLX1 KLX1 C [(21, .iconst (-1))] (by decide +kernel) (pc' := 22) (L' := [(0, .ref 33), (1, .int i6)]) (st' := [.int (-1), .int (mz_rg 5 (M 37) i6)]) rfl ?_
    refine mz_ieq (off := 5) (tgt := 27) C (by decide +kernel) (by decide) (fun h8 => ?_) (fun h8 => ?_)
    · refine mz_go FLX1 KLX1 C [(27, .iinc 1 1), (30, .goto (-28))] (by decide +kernel) (pc' := 2) (L' := [(1, .int (i6 + 1)), (0, .ref 33)]) (st' := []) rfl ?_
      exact mz_sub (by simp) (ih2 h1 (by unfold g_X1_anyIsPlayed_1; rw [if_pos h8]))
    · refine mz_go FLX1 KLX1 C [(25, .iconst 1)] (by decide +kernel) (pc' := 26) (L' := [(0, .ref 33), (1, .int i6)]) (st' := [.int 1]) rfl ?_
      have hf9 := hp4 h1 (by unfold g_X1_anyIsPlayed_1; rw [if_neg h8])
      exact mz_zret C E (by decide +kernel) (Or.inr rfl) (by unfold g_X1_anyIsPlayed; rw [hf9]; try rfl) (rfl)
def g_X1_rolesOf_1 (M : mz_Mem) (t : Int32) (i2 : Int32) (a3 : Int32) : Int32 := if (mz_rg 5 (M 37) i2) = t then a3 ||| (1 <<< (i2 &&& 31)) else a3
def g_X1_rolesOf (M : mz_Mem) (t : Int32) : Int32 := (mz_fr (M 15 0) (g_X1_rolesOf_1 M t) (1 <<< (t &&& 31)))
set_option maxHeartbeats 4000000 in
theorem f_X1_rolesOf (l : Launch) (D : va_G) (cA : ClassId) (ρ : Nat → Nat) (hI : mz_I ρ mz_lay1) (M : mz_Mem) (t : Int32) : mz_M l D vwCl cA ρ mz_lay1 yX1_rolesOf cX1_rolesOf 4 (some .int) 1 21 [.ref 33, .int t] M (some (.int (g_X1_rolesOf M t))) M := by
  refine mz_in0 (by decide +kernel) (Nat.le_of_ble_eq_true rfl) (fun Γ C E => ?_)
  have E' := (⟨_, _, _, E⟩ : ∃ Qc mc ms, mz_E Γ Qc mc ms (mz_A ρ mz_lay1))
  refine mz_go FLX1 KLX1 C [(0, .iconst 1), (1, .iload_n 1), (2, .ishl), (3, .istore_n 2), (4, .iconst 0), (5, .istore_n 3)] (by decide +kernel) (pc' := 6) (L' := [(3, .int 0), (2, .int (1 <<< (t &&& 31))), (0, .ref 33), (1, .int t)]) (st' := []) rfl ?_
  refine mz_sub (L' := [(0, .ref 33), (1, .int t), (2, .int (1 <<< (t &&& 31))), (3, .int 0)]) (by simp) ?_
  refine mz_loop (M 15 0) (g_X1_rolesOf_1 M t) (fun (i : Int32) (a : Int32) => mz_W Γ ρ 4 0 0 (mz_H D vwCl cA ρ mz_lay1 M) 6 [(0, .ref 33), (1, .int t), (2, .int a), (3, .int i)] []) (1 <<< (t &&& 31)) (fun i2 a3 hi4 hx5 hb6 => ?_)
  refine mz_go FLX1 KLX1 C [(6, .iload_n 3), (7, .aload_n 0), (8, .getfield 26), (11, .getfield 42)] (by decide +kernel) (pc' := 14) (L' := [(0, .ref 33), (1, .int t), (2, .int a3), (3, .int i2)]) (st' := [.int (M 15 0), .int i2]) rfl ?_
  refine mz_ige (off := 27) (tgt := 41) C (by decide +kernel) (by decide) (fun h1 => ?_) (fun h1 => ?_)
  · have e10 := hx5 h1
    subst e10
    refine mz_sub (L' := [(0, .ref 33), (1, .int t), (2, .int (mz_fr (M 15 0) (g_X1_rolesOf_1 M t) (1 <<< (t &&& 31))))]) (by simp) ?_
    refine mz_go FLX1 KLX1 C [(41, .iload_n 2)] (by decide +kernel) (pc' := 42) (L' := [(0, .ref 33), (1, .int t), (2, .int (mz_fr (M 15 0) (g_X1_rolesOf_1 M t) (1 <<< (t &&& 31))))]) (st' := [.int (mz_fr (M 15 0) (g_X1_rolesOf_1 M t) (1 <<< (t &&& 31)))]) rfl ?_
    exact mz_iret C E (by decide +kernel) (rfl) (rfl)
  · refine mz_go FLX1 KLX1 C [(17, .aload_n 0), (18, .getfield 20), (21, .iload_n 3)] (by decide +kernel) (pc' := 22) (L' := [(0, .ref 33), (1, .int t), (2, .int a3), (3, .int i2)]) (st' := [.int i2, .ref 36]) rfl ?_
    refine mz_callV (As := [.int i2]) (rest := []) C E' (f_Row_get l D cA ρ hI (r := 36) (a := 37) (n := 5) rfl rfl (by decide) M i2) hy_X6_get wl_X1_38 rfl rfl rfl ⟨Nat.le_of_ble_eq_true rfl, Nat.le_of_ble_eq_true rfl⟩ ⟨Nat.le_refl _, Nat.le_refl _⟩ (Nat.le_of_ble_eq_true rfl) (by decide +kernel) ?_ rfl
    refine mz_go FLX1 KLX1 C [(25, .iload_n 1)] (by decide +kernel) (pc' := 26) (L' := [(0, .ref 33), (1, .int t), (2, .int a3), (3, .int i2)]) (st' := [.int t, .int (mz_rg 5 (M 37) i2)]) rfl ?_
    refine mz_ine (off := 9) (tgt := 35) C (by decide +kernel) (by decide) (fun h11 => ?_) (fun h11 => ?_)
    · refine mz_go FLX1 KLX1 C [(35, .iinc 3 1), (38, .goto (-32))] (by decide +kernel) (pc' := 6) (L' := [(3, .int (i2 + 1)), (0, .ref 33), (1, .int t), (2, .int a3)]) (st' := []) rfl ?_
      have hb12 := hb6 h1
      rw [show g_X1_rolesOf_1 M t i2 a3 = a3 from by unfold g_X1_rolesOf_1; rw [if_neg h11]] at hb12
      exact mz_sub (by simp) hb12
    · refine mz_go FLX1 KLX1 C [(29, .iload_n 2), (30, .iconst 1), (31, .iload_n 3), (32, .ishl), (33, .ior), (34, .istore_n 2), (35, .iinc 3 1), (38, .goto (-32))] (by decide +kernel) (pc' := 6) (L' := [(3, .int (i2 + 1)), (2, .int (a3 ||| (1 <<< (i2 &&& 31)))), (0, .ref 33), (1, .int t)]) (st' := []) rfl ?_
      have hb13 := hb6 h1
      rw [show g_X1_rolesOf_1 M t i2 a3 = a3 ||| (1 <<< (i2 &&& 31)) from by unfold g_X1_rolesOf_1; rw [if_pos h11]] at hb13
      exact mz_sub (by simp) hb13
def g_X1_isSingle (M : mz_Mem) (t : Int32) : Int32 := if (mz_rg 5 (M 37) t) = (-1) then (if (g_X1_rolesOf M t) = (1 <<< (t &&& 31)) then 1 else 0) else 0
set_option maxHeartbeats 4000000 in
theorem f_X1_isSingle (l : Launch) (D : va_G) (cA : ClassId) (ρ : Nat → Nat) (hI : mz_I ρ mz_lay1) (M : mz_Mem) (t : Int32) : mz_M l D vwCl cA ρ mz_lay1 yX1_isSingle cX1_isSingle 2 (some .boolean) 2 44 [.ref 33, .int t] M (some (.int (g_X1_isSingle M t))) M := by
  refine mz_in0 (by decide +kernel) (Nat.le_of_ble_eq_true rfl) (fun Γ C E => ?_)
  have E' := (⟨_, _, _, E⟩ : ∃ Qc mc ms, mz_E Γ Qc mc ms (mz_A ρ mz_lay1))
  refine mz_go FLX1 KLX1 C [(0, .aload_n 0), (1, .getfield 20), (4, .iload_n 1)] (by decide +kernel) (pc' := 5) (L' := [(0, .ref 33), (1, .int t)]) (st' := [.int t, .ref 36]) rfl ?_
  refine mz_callV (As := [.int t]) (rest := []) C E' (f_Row_get l D cA ρ hI (r := 36) (a := 37) (n := 5) rfl rfl (by decide) M t) hy_X6_get wl_X1_38 rfl rfl rfl ⟨Nat.le_of_ble_eq_true rfl, Nat.le_of_ble_eq_true rfl⟩ ⟨Nat.le_refl _, Nat.le_refl _⟩ (Nat.le_of_ble_eq_true rfl) (by decide +kernel) ?_ rfl
  refine mz_go FLX1 KLX1 C [(8, .iconst (-1))] (by decide +kernel) (pc' := 9) (L' := [(0, .ref 33), (1, .int t)]) (st' := [.int (-1), .int (mz_rg 5 (M 37) t)]) rfl ?_
  refine mz_ine (off := 18) (tgt := 27) C (by decide +kernel) (by decide) (fun h1 => ?_) (fun h1 => ?_)
  · refine mz_go FLX1 KLX1 C [(27, .iconst 0)] (by decide +kernel) (pc' := 28) (L' := [(0, .ref 33), (1, .int t)]) (st' := [.int 0]) rfl ?_
    exact mz_zret C E (by decide +kernel) (Or.inl rfl) (by unfold g_X1_isSingle; rw [if_neg h1]; try rfl) (rfl)
  · refine mz_go FLX1 KLX1 C [(12, .aload_n 0), (13, .iload_n 1)] (by decide +kernel) (pc' := 14) (L' := [(0, .ref 33), (1, .int t)]) (st' := [.int t, .ref 33]) rfl ?_
    refine mz_callV (As := [.int t]) (rest := []) C E' (f_X1_rolesOf l D cA ρ hI M t) hy_X1_rolesOf wl_X1_48 rfl rfl rfl ⟨Nat.le_of_ble_eq_true rfl, Nat.le_of_ble_eq_true rfl⟩ ⟨Nat.le_refl _, Nat.le_refl _⟩ (Nat.le_of_ble_eq_true rfl) (by decide +kernel) ?_ rfl
    refine mz_go FLX1 KLX1 C [(17, .iconst 1), (18, .iload_n 1), (19, .ishl)] (by decide +kernel) (pc' := 20) (L' := [(0, .ref 33), (1, .int t)]) (st' := [.int (1 <<< (t &&& 31)), .int (g_X1_rolesOf M t)]) rfl ?_
    refine mz_ine (off := 7) (tgt := 27) C (by decide +kernel) (by decide) (fun h2 => ?_) (fun h2 => ?_)
    · refine mz_go FLX1 KLX1 C [(27, .iconst 0)] (by decide +kernel) (pc' := 28) (L' := [(0, .ref 33), (1, .int t)]) (st' := [.int 0]) rfl ?_
      exact mz_zret C E (by decide +kernel) (Or.inl rfl) (by unfold g_X1_isSingle; rw [if_pos h1, if_neg h2]; try rfl) (rfl)
    · refine mz_go FLX1 KLX1 C [(23, .iconst 1), (24, .goto 4)] (by decide +kernel) (pc' := 28) (L' := [(0, .ref 33), (1, .int t)]) (st' := [.int 1]) rfl ?_
      exact mz_zret C E (by decide +kernel) (Or.inr rfl) (by unfold g_X1_isSingle; rw [if_pos h1, if_pos h2]; try rfl) (rfl)
def g_X1_withDoubles_1 (M : mz_Mem) (s : Int32) (i2 : Int32) (a3 : Int32) : Int32 := if (mz_rg 5 (M 37) i2) = (-1) then a3 else if (s &&& ((1 <<< (i2 &&& 31)) ||| (1 <<< ((mz_rg 5 (M 37) i2) &&& 31)))) = 0 then a3 else a3 ||| ((1 <<< (i2 &&& 31)) ||| (1 <<< ((mz_rg 5 (M 37) i2) &&& 31)))
def g_X1_withDoubles (M : mz_Mem) (s : Int32) : Int32 := (mz_fr (M 15 0) (g_X1_withDoubles_1 M s) s)
set_option maxHeartbeats 4000000 in
theorem f_X1_withDoubles (l : Launch) (D : va_G) (cA : ClassId) (ρ : Nat → Nat) (hI : mz_I ρ mz_lay1) (M : mz_Mem) (s : Int32) : mz_M l D vwCl cA ρ mz_lay1 yX1_withDoubles cX1_withDoubles 5 (some .int) 1 21 [.ref 33, .int s] M (some (.int (g_X1_withDoubles M s))) M := by
  refine mz_in0 (by decide +kernel) (Nat.le_of_ble_eq_true rfl) (fun Γ C E => ?_)
  have E' := (⟨_, _, _, E⟩ : ∃ Qc mc ms, mz_E Γ Qc mc ms (mz_A ρ mz_lay1))
  refine mz_go FLX1 KLX1 C [(0, .iload_n 1), (1, .istore_n 2), (2, .iconst 0), (3, .istore_n 3)] (by decide +kernel) (pc' := 4) (L' := [(3, .int 0), (2, .int s), (0, .ref 33), (1, .int s)]) (st' := []) rfl ?_
  refine mz_sub (L' := [(0, .ref 33), (1, .int s), (2, .int s), (3, .int 0)]) (by simp) ?_
  refine mz_loop (M 15 0) (g_X1_withDoubles_1 M s) (fun (i : Int32) (a : Int32) => mz_W Γ ρ 5 0 0 (mz_H D vwCl cA ρ mz_lay1 M) 4 [(0, .ref 33), (1, .int s), (2, .int a), (3, .int i)] []) s (fun i2 a3 hi4 hx5 hb6 => ?_)
  refine mz_go FLX1 KLX1 C [(4, .iload_n 3), (5, .aload_n 0), (6, .getfield 26), (9, .getfield 42)] (by decide +kernel) (pc' := 12) (L' := [(0, .ref 33), (1, .int s), (2, .int a3), (3, .int i2)]) (st' := [.int (M 15 0), .int i2]) rfl ?_
  refine mz_ige (off := 49) (tgt := 61) C (by decide +kernel) (by decide) (fun h1 => ?_) (fun h1 => ?_)
  · have e10 := hx5 h1
    subst e10
    refine mz_sub (L' := [(0, .ref 33), (1, .int s), (2, .int (mz_fr (M 15 0) (g_X1_withDoubles_1 M s) s))]) (by simp) ?_
    refine mz_go FLX1 KLX1 C [(61, .iload_n 2)] (by decide +kernel) (pc' := 62) (L' := [(0, .ref 33), (1, .int s), (2, .int (mz_fr (M 15 0) (g_X1_withDoubles_1 M s) s))]) (st' := [.int (mz_fr (M 15 0) (g_X1_withDoubles_1 M s) s)]) rfl ?_
    exact mz_iret C E (by decide +kernel) (rfl) (rfl)
  · refine mz_go FLX1 KLX1 C [(15, .aload_n 0), (16, .getfield 20), (19, .iload_n 3)] (by decide +kernel) (pc' := 20) (L' := [(0, .ref 33), (1, .int s), (2, .int a3), (3, .int i2)]) (st' := [.int i2, .ref 36]) rfl ?_
    refine mz_callV (As := [.int i2]) (rest := []) C E' (f_Row_get l D cA ρ hI (r := 36) (a := 37) (n := 5) rfl rfl (by decide) M i2) hy_X6_get wl_X1_38 rfl rfl rfl ⟨Nat.le_of_ble_eq_true rfl, Nat.le_of_ble_eq_true rfl⟩ ⟨Nat.le_refl _, Nat.le_refl _⟩ (Nat.le_of_ble_eq_true rfl) (by decide +kernel) ?_ rfl
    refine mz_go FLX1 KLX1 C [(23, .istore 4), (25, .iload 4), (27, .iconst (-1))] (by decide +kernel) (pc' := 28) (L' := [(4, .int (mz_rg 5 (M 37) i2)), (0, .ref 33), (1, .int s), (2, .int a3), (3, .int i2)]) (st' := [.int (-1), .int (mz_rg 5 (M 37) i2)]) rfl ?_
    refine mz_ieq (off := 27) (tgt := 55) C (by decide +kernel) (by decide) (fun h11 => ?_) (fun h11 => ?_)
    · refine mz_go FLX1 KLX1 C [(55, .iinc 3 1), (58, .goto (-54))] (by decide +kernel) (pc' := 4) (L' := [(3, .int (i2 + 1)), (4, .int (mz_rg 5 (M 37) i2)), (0, .ref 33), (1, .int s), (2, .int a3)]) (st' := []) rfl ?_
      have hb12 := hb6 h1
      rw [show g_X1_withDoubles_1 M s i2 a3 = a3 from by unfold g_X1_withDoubles_1; rw [if_pos h11]] at hb12
      exact mz_sub (by simp) hb12
    · refine mz_go FLX1 KLX1 C [(31, .iload_n 1), (32, .iconst 1), (33, .iload_n 3), (34, .ishl), (35, .iconst 1), (36, .iload 4), (38, .ishl), (39, .ior), (40, .iand)] (by decide +kernel) (pc' := 41) (L' := [(4, .int (mz_rg 5 (M 37) i2)), (0, .ref 33), (1, .int s), (2, .int a3), (3, .int i2)]) (st' := [.int (s &&& ((1 <<< (i2 &&& 31)) ||| (1 <<< ((mz_rg 5 (M 37) i2) &&& 31))))]) rfl ?_
      refine mz_zeq (off := 14) (tgt := 55) C (by decide +kernel) (by decide) (fun h13 => ?_) (fun h13 => ?_)
      · refine mz_go FLX1 KLX1 C [(55, .iinc 3 1), (58, .goto (-54))] (by decide +kernel) (pc' := 4) (L' := [(3, .int (i2 + 1)), (4, .int (mz_rg 5 (M 37) i2)), (0, .ref 33), (1, .int s), (2, .int a3)]) (st' := []) rfl ?_
        have hb14 := hb6 h1
        rw [show g_X1_withDoubles_1 M s i2 a3 = a3 from by unfold g_X1_withDoubles_1; rw [if_neg h11, if_pos h13]] at hb14
        exact mz_sub (by simp) hb14
      · refine mz_go FLX1 KLX1 C [(44, .iload_n 2), (45, .iconst 1), (46, .iload_n 3), (47, .ishl), (48, .iconst 1), (49, .iload 4), (51, .ishl), (52, .ior), (53, .ior), (54, .istore_n 2), (55, .iinc 3 1), (58, .goto (-54))] (by decide +kernel) (pc' := 4) (L' := [(3, .int (i2 + 1)), (2, .int (a3 ||| ((1 <<< (i2 &&& 31)) ||| (1 <<< ((mz_rg 5 (M 37) i2) &&& 31))))), (4, .int (mz_rg 5 (M 37) i2)), (0, .ref 33), (1, .int s)]) (st' := []) rfl ?_
        have hb15 := hb6 h1
        rw [show g_X1_withDoubles_1 M s i2 a3 = a3 ||| ((1 <<< (i2 &&& 31)) ||| (1 <<< ((mz_rg 5 (M 37) i2) &&& 31))) from by unfold g_X1_withDoubles_1; rw [if_neg h11, if_neg h13]] at hb15
        exact mz_sub (by simp) hb15
def g_X1_setIn_1 (M : mz_Mem) (p : Int32) (i2 : Int32) (a3 : Int32) : Int32 := if (mz_rg 5 (M 35) i2) = p then a3 ||| (1 <<< (i2 &&& 31)) else a3
def g_X1_setIn (M : mz_Mem) (p : Int32) : Int32 := (mz_fr (M 15 0) (g_X1_setIn_1 M p) 0)
set_option maxHeartbeats 4000000 in
theorem f_X1_setIn (l : Launch) (D : va_G) (cA : ClassId) (ρ : Nat → Nat) (hI : mz_I ρ mz_lay1) (M : mz_Mem) (p : Int32) : mz_M l D vwCl cA ρ mz_lay1 yX1_setIn cX1_setIn 4 (some .int) 1 21 [.ref 33, .int p] M (some (.int (g_X1_setIn M p))) M := by
  refine mz_in0 (by decide +kernel) (Nat.le_of_ble_eq_true rfl) (fun Γ C E => ?_)
  have E' := (⟨_, _, _, E⟩ : ∃ Qc mc ms, mz_E Γ Qc mc ms (mz_A ρ mz_lay1))
  refine mz_go FLX1 KLX1 C [(0, .iconst 0), (1, .istore_n 2), (2, .iconst 0), (3, .istore_n 3)] (by decide +kernel) (pc' := 4) (L' := [(3, .int 0), (2, .int 0), (0, .ref 33), (1, .int p)]) (st' := []) rfl ?_
  refine mz_sub (L' := [(0, .ref 33), (1, .int p), (2, .int 0), (3, .int 0)]) (by simp) ?_
  refine mz_loop (M 15 0) (g_X1_setIn_1 M p) (fun (i : Int32) (a : Int32) => mz_W Γ ρ 4 0 0 (mz_H D vwCl cA ρ mz_lay1 M) 4 [(0, .ref 33), (1, .int p), (2, .int a), (3, .int i)] []) 0 (fun i2 a3 hi4 hx5 hb6 => ?_)
  refine mz_go FLX1 KLX1 C [(4, .iload_n 3), (5, .aload_n 0), (6, .getfield 26), (9, .getfield 42)] (by decide +kernel) (pc' := 12) (L' := [(0, .ref 33), (1, .int p), (2, .int a3), (3, .int i2)]) (st' := [.int (M 15 0), .int i2]) rfl ?_
  refine mz_ige (off := 27) (tgt := 39) C (by decide +kernel) (by decide) (fun h1 => ?_) (fun h1 => ?_)
  · have e10 := hx5 h1
    subst e10
    refine mz_sub (L' := [(0, .ref 33), (1, .int p), (2, .int (mz_fr (M 15 0) (g_X1_setIn_1 M p) 0))]) (by simp) ?_
    refine mz_go FLX1 KLX1 C [(39, .iload_n 2)] (by decide +kernel) (pc' := 40) (L' := [(0, .ref 33), (1, .int p), (2, .int (mz_fr (M 15 0) (g_X1_setIn_1 M p) 0))]) (st' := [.int (mz_fr (M 15 0) (g_X1_setIn_1 M p) 0)]) rfl ?_
    exact mz_iret C E (by decide +kernel) (rfl) (rfl)
  · refine mz_go FLX1 KLX1 C [(15, .aload_n 0), (16, .getfield 14), (19, .iload_n 3)] (by decide +kernel) (pc' := 20) (L' := [(0, .ref 33), (1, .int p), (2, .int a3), (3, .int i2)]) (st' := [.int i2, .ref 34]) rfl ?_
    refine mz_callV (As := [.int i2]) (rest := []) C E' (f_Row_get l D cA ρ hI (r := 34) (a := 35) (n := 5) rfl rfl (by decide) M i2) hy_X6_get wl_X1_38 rfl rfl rfl ⟨Nat.le_of_ble_eq_true rfl, Nat.le_of_ble_eq_true rfl⟩ ⟨Nat.le_refl _, Nat.le_refl _⟩ (Nat.le_of_ble_eq_true rfl) (by decide +kernel) ?_ rfl
    refine mz_go FLX1 KLX1 C [(23, .iload_n 1)] (by decide +kernel) (pc' := 24) (L' := [(0, .ref 33), (1, .int p), (2, .int a3), (3, .int i2)]) (st' := [.int p, .int (mz_rg 5 (M 35) i2)]) rfl ?_
    refine mz_ine (off := 9) (tgt := 33) C (by decide +kernel) (by decide) (fun h11 => ?_) (fun h11 => ?_)
    · refine mz_go FLX1 KLX1 C [(33, .iinc 3 1), (36, .goto (-32))] (by decide +kernel) (pc' := 4) (L' := [(3, .int (i2 + 1)), (0, .ref 33), (1, .int p), (2, .int a3)]) (st' := []) rfl ?_
      have hb12 := hb6 h1
      rw [show g_X1_setIn_1 M p i2 a3 = a3 from by unfold g_X1_setIn_1; rw [if_neg h11]] at hb12
      exact mz_sub (by simp) hb12
    · refine mz_go FLX1 KLX1 C [(27, .iload_n 2), (28, .iconst 1), (29, .iload_n 3), (30, .ishl), (31, .ior), (32, .istore_n 2), (33, .iinc 3 1), (36, .goto (-32))] (by decide +kernel) (pc' := 4) (L' := [(3, .int (i2 + 1)), (2, .int (a3 ||| (1 <<< (i2 &&& 31)))), (0, .ref 33), (1, .int p)]) (st' := []) rfl ?_
      have hb13 := hb6 h1
      rw [show g_X1_setIn_1 M p i2 a3 = a3 ||| (1 <<< (i2 &&& 31)) from by unfold g_X1_setIn_1; rw [if_pos h11]] at hb13
      exact mz_sub (by simp) hb13
def g_X1_walk_1 (M : mz_Mem) (t : Int32) (to_ : Int32) (i2 : Int32) (a3 : mz_Mem) : mz_Mem := if ((g_X1_rolesOf (mz_s M 39 (mz_ra 5 (M 39) t 1)) t) &&& (1 <<< (i2 &&& 31))) = 0 then a3 else (mz_s a3 35 (mz_rs 5 (a3 35) i2 to_))
theorem g_X1_walk_1_hs (M : mz_Mem) (t : Int32) (to_ : Int32) (i2 : Int32) (a3 : mz_Mem) : mz_hs a3 (g_X1_walk_1 M t to_ i2 a3) := by
  unfold g_X1_walk_1
  by_cases h1 : ((g_X1_rolesOf (mz_s M 39 (mz_ra 5 (M 39) t 1)) t) &&& (1 <<< (i2 &&& 31))) = 0
  · rw [if_pos h1]
    exact mz_hs_rf
  · rw [if_neg h1]
    exact mz_hs_s (by decide)

def g_X1_walk (M : mz_Mem) (t : Int32) (to_ : Int32) : mz_Mem := (mz_fr ((mz_s M 39 (mz_ra 5 (M 39) t 1)) 15 0) (g_X1_walk_1 M t to_) (mz_s M 39 (mz_ra 5 (M 39) t 1)))
theorem g_X1_walk_hs (M : mz_Mem) (t : Int32) (to_ : Int32) : mz_hs M (g_X1_walk M t to_) := by
  unfold g_X1_walk
  exact (mz_hs_s (by decide)).trans (mz_hs_frp (fun (a : mz_Mem) => a) (fun i a => g_X1_walk_1_hs M t to_ i a))

set_option maxHeartbeats 4000000 in
theorem f_X1_walk (l : Launch) (D : va_G) (cA : ClassId) (ρ : Nat → Nat) (hI : mz_I ρ mz_lay1) (M : mz_Mem) (t : Int32) (to_ : Int32) : mz_M l D vwCl cA ρ mz_lay1 yX1_walk cX1_walk 5 none 2 44 [.ref 33, .int t, .int to_] M none (g_X1_walk M t to_) := by
  refine mz_in0 (by decide +kernel) (Nat.le_of_ble_eq_true rfl) (fun Γ C E => ?_)
  have E' := (⟨_, _, _, E⟩ : ∃ Qc mc ms, mz_E Γ Qc mc ms (mz_A ρ mz_lay1))
  refine mz_go FLX1 KLX1 C [(0, .aload_n 0), (1, .getfield 23), (4, .iload_n 1), (5, .iconst 1)] (by decide +kernel) (pc' := 6) (L' := [(0, .ref 33), (1, .int t), (2, .int to_)]) (st' := [.int 1, .int t, .ref 38]) rfl ?_
  refine mz_callV (As := [.int t, .int 1]) (rest := []) C E' (f_Row_add l D cA ρ hI (r := 38) (a := 39) (n := 5) rfl rfl (by decide) M t 1) hy_X6_add wl_X1_51 rfl rfl rfl ⟨Nat.le_of_ble_eq_true rfl, Nat.le_of_ble_eq_true rfl⟩ ⟨Nat.le_refl _, Nat.le_refl _⟩ (Nat.le_of_ble_eq_true rfl) (by decide +kernel) ?_ rfl
  refine mz_go FLX1 KLX1 C [(9, .aload_n 0), (10, .iload_n 1)] (by decide +kernel) (pc' := 11) (L' := [(0, .ref 33), (1, .int t), (2, .int to_)]) (st' := [.int t, .ref 33]) rfl ?_
  refine mz_callV (As := [.int t]) (rest := []) C E' (f_X1_rolesOf l D cA ρ hI (mz_s M 39 (mz_ra 5 (M 39) t 1)) t) hy_X1_rolesOf wl_X1_48 rfl rfl rfl ⟨Nat.le_of_ble_eq_true rfl, Nat.le_of_ble_eq_true rfl⟩ ⟨Nat.le_refl _, Nat.le_refl _⟩ (Nat.le_of_ble_eq_true rfl) (by decide +kernel) ?_ rfl
  refine mz_go FLX1 KLX1 C [(14, .istore_n 3), (15, .iconst 0), (16, .istore 4)] (by decide +kernel) (pc' := 18) (L' := [(4, .int 0), (3, .int (g_X1_rolesOf (mz_s M 39 (mz_ra 5 (M 39) t 1)) t)), (0, .ref 33), (1, .int t), (2, .int to_)]) (st' := []) rfl ?_
  refine mz_sub (L' := [(0, .ref 33), (1, .int t), (2, .int to_), (3, .int (g_X1_rolesOf (mz_s M 39 (mz_ra 5 (M 39) t 1)) t)), (4, .int 0)]) (by simp) ?_
  refine mz_loopI ((mz_s M 39 (mz_ra 5 (M 39) t 1)) 15 0) (g_X1_walk_1 M t to_) (fun (i : Int32) (a : mz_Mem) => mz_W Γ ρ 5 0 0 (mz_H D vwCl cA ρ mz_lay1 a) 18 [(0, .ref 33), (1, .int t), (2, .int to_), (3, .int (g_X1_rolesOf (mz_s M 39 (mz_ra 5 (M 39) t 1)) t)), (4, .int i)] []) (fun (a : mz_Mem) => a 15 0 = (mz_s M 39 (mz_ra 5 (M 39) t 1)) 15 0) (mz_s M 39 (mz_ra 5 (M 39) t 1)) rfl (fun i a h => ?_) (fun i2 a3 hi4 hv7 hx5 hb6 => ?_)
  · exact (congrFun (g_X1_walk_1_hs M t to_ i a _ (by decide)) _).trans h
  have hv7 : a3 15 0 = (mz_s M 39 (mz_ra 5 (M 39) t 1)) 15 0 := hv7
  refine mz_go FLX1 KLX1 C [(18, .iload 4), (20, .aload_n 0), (21, .getfield 26), (24, .getfield 42)] (by decide +kernel) (pc' := 27) (L' := [(0, .ref 33), (1, .int t), (2, .int to_), (3, .int (g_X1_rolesOf (mz_s M 39 (mz_ra 5 (M 39) t 1)) t)), (4, .int i2)]) (st' := [.int (a3 15 0), .int i2]) rfl ?_
  refine mz_ige (off := 28) (tgt := 55) C (by decide +kernel) (by decide) (fun h1 => ?_) (fun h1 => ?_)
  · have e10 := hx5 (by rw [hv7] at h1; exact h1)
    subst e10
    refine mz_sub (L' := [(0, .ref 33), (1, .int t), (2, .int to_), (3, .int (g_X1_rolesOf (mz_s M 39 (mz_ra 5 (M 39) t 1)) t))]) (by simp) ?_
    exact mz_vret C E (by decide +kernel) (rfl)
  · refine mz_go FLX1 KLX1 C [(30, .iload_n 3), (31, .iconst 1), (32, .iload 4), (34, .ishl), (35, .iand)] (by decide +kernel) (pc' := 36) (L' := [(0, .ref 33), (1, .int t), (2, .int to_), (3, .int (g_X1_rolesOf (mz_s M 39 (mz_ra 5 (M 39) t 1)) t)), (4, .int i2)]) (st' := [.int ((g_X1_rolesOf (mz_s M 39 (mz_ra 5 (M 39) t 1)) t) &&& (1 <<< (i2 &&& 31)))]) rfl ?_
    refine mz_zeq (off := 13) (tgt := 49) C (by decide +kernel) (by decide) (fun h11 => ?_) (fun h11 => ?_)
    · refine mz_go FLX1 KLX1 C [(49, .iinc 4 1), (52, .goto (-34))] (by decide +kernel) (pc' := 18) (L' := [(4, .int (i2 + 1)), (0, .ref 33), (1, .int t), (2, .int to_), (3, .int (g_X1_rolesOf (mz_s M 39 (mz_ra 5 (M 39) t 1)) t))]) (st' := []) rfl ?_
      have hb12 := hb6 (by rw [hv7] at h1; exact h1)
      rw [show g_X1_walk_1 M t to_ i2 a3 = a3 from by unfold g_X1_walk_1; rw [if_pos h11]] at hb12
      exact mz_sub (by simp) hb12
    · refine mz_go FLX1 KLX1 C [(39, .aload_n 0), (40, .getfield 14), (43, .iload 4), (45, .iload_n 2)] (by decide +kernel) (pc' := 46) (L' := [(0, .ref 33), (1, .int t), (2, .int to_), (3, .int (g_X1_rolesOf (mz_s M 39 (mz_ra 5 (M 39) t 1)) t)), (4, .int i2)]) (st' := [.int to_, .int i2, .ref 34]) rfl ?_
      refine mz_callV (As := [.int i2, .int to_]) (rest := []) C E' (f_Row_set l D cA ρ hI (r := 34) (a := 35) (n := 5) rfl rfl (by decide) a3 i2 to_) hy_X6_set wl_X1_34 rfl rfl rfl ⟨Nat.le_of_ble_eq_true rfl, Nat.le_of_ble_eq_true rfl⟩ ⟨Nat.le_refl _, Nat.le_refl _⟩ (Nat.le_of_ble_eq_true rfl) (by decide +kernel) ?_ rfl
      refine mz_go FLX1 KLX1 C [(49, .iinc 4 1), (52, .goto (-34))] (by decide +kernel) (pc' := 18) (L' := [(4, .int (i2 + 1)), (0, .ref 33), (1, .int t), (2, .int to_), (3, .int (g_X1_rolesOf (mz_s M 39 (mz_ra 5 (M 39) t 1)) t))]) (st' := []) rfl ?_
      have hb13 := hb6 (by rw [hv7] at h1; exact h1)
      rw [show g_X1_walk_1 M t to_ i2 a3 = (mz_s a3 35 (mz_rs 5 (a3 35) i2 to_)) from by unfold g_X1_walk_1; rw [if_neg h11]] at hb13
      exact mz_sub (by simp) hb13
end
section
def g_X5_lay (M : mz_Mem) (p : Int32) (r : Int32) : mz_Mem := (mz_s (mz_s (mz_s M 53 (mz_rs 4 (M 53) p r)) 55 (mz_rs 4 ((mz_s M 53 (mz_rs 4 (M 53) p r)) 55) p (-1))) 57 (mz_rs 4 ((mz_s (mz_s M 53 (mz_rs 4 (M 53) p r)) 55 (mz_rs 4 ((mz_s M 53 (mz_rs 4 (M 53) p r)) 55) p (-1))) 57) p (-1)))
theorem g_X5_lay_hs (M : mz_Mem) (p : Int32) (r : Int32) : mz_hs M (g_X5_lay M p r) := by
  unfold g_X5_lay
  exact ((mz_hs_s (by decide)).trans (mz_hs_s (by decide))).trans (mz_hs_s (by decide))

set_option maxHeartbeats 4000000 in
theorem f_X5_lay (l : Launch) (D : va_G) (cA : ClassId) (ρ : Nat → Nat) (hI : mz_I ρ mz_lay1) (M : mz_Mem) (p : Int32) (r : Int32) : mz_M l D vwCl cA ρ mz_lay1 yX5_lay cX5_lay 3 none 1 22 [.ref 51, .int p, .int r] M none (g_X5_lay M p r) := by
  refine mz_in0 (by decide +kernel) (Nat.le_of_ble_eq_true rfl) (fun Γ C E => ?_)
  have E' := (⟨_, _, _, E⟩ : ∃ Qc mc ms, mz_E Γ Qc mc ms (mz_A ρ mz_lay1))
  refine mz_go FLX5 KLX5 C [(0, .aload_n 0), (1, .getfield 14), (4, .iload_n 1), (5, .iload_n 2)] (by decide +kernel) (pc' := 6) (L' := [(0, .ref 51), (1, .int p), (2, .int r)]) (st' := [.int r, .int p, .ref 52]) rfl ?_
  refine mz_callV (As := [.int p, .int r]) (rest := []) C E' (f_Row_set l D cA ρ hI (r := 52) (a := 53) (n := 4) rfl rfl (by decide) M p r) hy_X6_set wl_X5_37 rfl rfl rfl ⟨Nat.le_of_ble_eq_true rfl, Nat.le_of_ble_eq_true rfl⟩ ⟨Nat.le_refl _, Nat.le_refl _⟩ (Nat.le_of_ble_eq_true rfl) (by decide +kernel) ?_ rfl
  refine mz_go FLX5 KLX5 C [(9, .aload_n 0), (10, .getfield 20), (13, .iload_n 1), (14, .iconst (-1))] (by decide +kernel) (pc' := 15) (L' := [(0, .ref 51), (1, .int p), (2, .int r)]) (st' := [.int (-1), .int p, .ref 54]) rfl ?_
  refine mz_callV (As := [.int p, .int (-1)]) (rest := []) C E' (f_Row_set l D cA ρ hI (r := 54) (a := 55) (n := 4) rfl rfl (by decide) (mz_s M 53 (mz_rs 4 (M 53) p r)) p (-1)) hy_X6_set wl_X5_37 rfl rfl rfl ⟨Nat.le_of_ble_eq_true rfl, Nat.le_of_ble_eq_true rfl⟩ ⟨Nat.le_refl _, Nat.le_refl _⟩ (Nat.le_of_ble_eq_true rfl) (by decide +kernel) ?_ rfl
  refine mz_go FLX5 KLX5 C [(18, .aload_n 0), (19, .getfield 23), (22, .iload_n 1), (23, .iconst (-1))] (by decide +kernel) (pc' := 24) (L' := [(0, .ref 51), (1, .int p), (2, .int r)]) (st' := [.int (-1), .int p, .ref 56]) rfl ?_
  refine mz_callV (As := [.int p, .int (-1)]) (rest := []) C E' (f_Row_set l D cA ρ hI (r := 56) (a := 57) (n := 4) rfl rfl (by decide) (mz_s (mz_s M 53 (mz_rs 4 (M 53) p r)) 55 (mz_rs 4 ((mz_s M 53 (mz_rs 4 (M 53) p r)) 55) p (-1))) p (-1)) hy_X6_set wl_X5_37 rfl rfl rfl ⟨Nat.le_of_ble_eq_true rfl, Nat.le_of_ble_eq_true rfl⟩ ⟨Nat.le_refl _, Nat.le_refl _⟩ (Nat.le_of_ble_eq_true rfl) (by decide +kernel) ?_ rfl
  exact mz_vret C E (by decide +kernel) (rfl)
def g_X5_giveToTrack (M : mz_Mem) (p : Int32) (t : Int32) : mz_Mem := (mz_s (g_X5_lay M p (-1)) 55 (mz_rs 4 ((g_X5_lay M p (-1)) 55) p t))
theorem g_X5_giveToTrack_hs (M : mz_Mem) (p : Int32) (t : Int32) : mz_hs M (g_X5_giveToTrack M p t) := by
  unfold g_X5_giveToTrack
  exact (g_X5_lay_hs M p (-1)).trans (mz_hs_s (by decide))

set_option maxHeartbeats 4000000 in
theorem f_X5_giveToTrack (l : Launch) (D : va_G) (cA : ClassId) (ρ : Nat → Nat) (hI : mz_I ρ mz_lay1) (M : mz_Mem) (p : Int32) (t : Int32) : mz_M l D vwCl cA ρ mz_lay1 yX5_giveToTrack cX5_giveToTrack 3 none 2 44 [.ref 51, .int p, .int t] M none (g_X5_giveToTrack M p t) := by
  refine mz_in0 (by decide +kernel) (Nat.le_of_ble_eq_true rfl) (fun Γ C E => ?_)
  have E' := (⟨_, _, _, E⟩ : ∃ Qc mc ms, mz_E Γ Qc mc ms (mz_A ρ mz_lay1))
  refine mz_go FLX5 KLX5 C [(0, .aload_n 0), (1, .iload_n 1), (2, .iconst (-1))] (by decide +kernel) (pc' := 3) (L' := [(0, .ref 51), (1, .int p), (2, .int t)]) (st' := [.int (-1), .int p, .ref 51]) rfl ?_
  refine mz_callV (As := [.int p, .int (-1)]) (rest := []) C E' (f_X5_lay l D cA ρ hI M p (-1)) hy_X5_lay wl_X5_41 rfl rfl rfl ⟨Nat.le_of_ble_eq_true rfl, Nat.le_of_ble_eq_true rfl⟩ ⟨Nat.le_refl _, Nat.le_refl _⟩ (Nat.le_of_ble_eq_true rfl) (by decide +kernel) ?_ rfl
  refine mz_go FLX5 KLX5 C [(6, .aload_n 0), (7, .getfield 20), (10, .iload_n 1), (11, .iload_n 2)] (by decide +kernel) (pc' := 12) (L' := [(0, .ref 51), (1, .int p), (2, .int t)]) (st' := [.int t, .int p, .ref 54]) rfl ?_
  refine mz_callV (As := [.int p, .int t]) (rest := []) C E' (f_Row_set l D cA ρ hI (r := 54) (a := 55) (n := 4) rfl rfl (by decide) (g_X5_lay M p (-1)) p t) hy_X6_set wl_X5_37 rfl rfl rfl ⟨Nat.le_of_ble_eq_true rfl, Nat.le_of_ble_eq_true rfl⟩ ⟨Nat.le_refl _, Nat.le_refl _⟩ (Nat.le_of_ble_eq_true rfl) (by decide +kernel) ?_ rfl
  exact mz_vret C E (by decide +kernel) (rfl)
def g_X5_giveToGuest (M : mz_Mem) (p : Int32) (g : Int32) : mz_Mem := (mz_s (mz_s (g_X5_lay M p (-1)) 57 (mz_rs 4 ((g_X5_lay M p (-1)) 57) p g)) 59 (mz_rs 4 ((mz_s (g_X5_lay M p (-1)) 57 (mz_rs 4 ((g_X5_lay M p (-1)) 57) p g)) 59) p ((mz_rg 4 ((mz_s (g_X5_lay M p (-1)) 57 (mz_rs 4 ((g_X5_lay M p (-1)) 57) p g)) 59) p) ||| (1 <<< (g &&& 31)))))
theorem g_X5_giveToGuest_hs (M : mz_Mem) (p : Int32) (g : Int32) : mz_hs M (g_X5_giveToGuest M p g) := by
  unfold g_X5_giveToGuest
  exact ((g_X5_lay_hs M p (-1)).trans (mz_hs_s (by decide))).trans (mz_hs_s (by decide))

set_option maxHeartbeats 4000000 in
theorem f_X5_giveToGuest (l : Launch) (D : va_G) (cA : ClassId) (ρ : Nat → Nat) (hI : mz_I ρ mz_lay1) (M : mz_Mem) (p : Int32) (g : Int32) : mz_M l D vwCl cA ρ mz_lay1 yX5_giveToGuest cX5_giveToGuest 3 none 2 44 [.ref 51, .int p, .int g] M none (g_X5_giveToGuest M p g) := by
  refine mz_in0 (by decide +kernel) (Nat.le_of_ble_eq_true rfl) (fun Γ C E => ?_)
  have E' := (⟨_, _, _, E⟩ : ∃ Qc mc ms, mz_E Γ Qc mc ms (mz_A ρ mz_lay1))
  refine mz_go FLX5 KLX5 C [(0, .aload_n 0), (1, .iload_n 1), (2, .iconst (-1))] (by decide +kernel) (pc' := 3) (L' := [(0, .ref 51), (1, .int p), (2, .int g)]) (st' := [.int (-1), .int p, .ref 51]) rfl ?_
  refine mz_callV (As := [.int p, .int (-1)]) (rest := []) C E' (f_X5_lay l D cA ρ hI M p (-1)) hy_X5_lay wl_X5_41 rfl rfl rfl ⟨Nat.le_of_ble_eq_true rfl, Nat.le_of_ble_eq_true rfl⟩ ⟨Nat.le_refl _, Nat.le_refl _⟩ (Nat.le_of_ble_eq_true rfl) (by decide +kernel) ?_ rfl
  refine mz_go FLX5 KLX5 C [(6, .aload_n 0), (7, .getfield 23), (10, .iload_n 1), (11, .iload_n 2)] (by decide +kernel) (pc' := 12) (L' := [(0, .ref 51), (1, .int p), (2, .int g)]) (st' := [.int g, .int p, .ref 56]) rfl ?_
  refine mz_callV (As := [.int p, .int g]) (rest := []) C E' (f_Row_set l D cA ρ hI (r := 56) (a := 57) (n := 4) rfl rfl (by decide) (g_X5_lay M p (-1)) p g) hy_X6_set wl_X5_37 rfl rfl rfl ⟨Nat.le_of_ble_eq_true rfl, Nat.le_of_ble_eq_true rfl⟩ ⟨Nat.le_refl _, Nat.le_refl _⟩ (Nat.le_of_ble_eq_true rfl) (by decide +kernel) ?_ rfl
  refine mz_go FLX5 KLX5 C [(15, .aload_n 0), (16, .getfield 26), (19, .iload_n 1), (20, .aload_n 0), (21, .getfield 26), (24, .iload_n 1)] (by decide +kernel) (pc' := 25) (L' := [(0, .ref 51), (1, .int p), (2, .int g)]) (st' := [.int p, .ref 58, .int p, .ref 58]) rfl ?_
  refine mz_callV (As := [.int p]) (rest := [.int p, .ref 58]) C E' (f_Row_get l D cA ρ hI (r := 58) (a := 59) (n := 4) rfl rfl (by decide) (mz_s (g_X5_lay M p (-1)) 57 (mz_rs 4 ((g_X5_lay M p (-1)) 57) p g)) p) hy_X6_get wl_X5_44 rfl rfl rfl ⟨Nat.le_of_ble_eq_true rfl, Nat.le_of_ble_eq_true rfl⟩ ⟨Nat.le_refl _, Nat.le_refl _⟩ (Nat.le_of_ble_eq_true rfl) (by decide +kernel) ?_ rfl
  refine mz_go FLX5 KLX5 C [(28, .iconst 1), (29, .iload_n 2), (30, .ishl), (31, .ior)] (by decide +kernel) (pc' := 32) (L' := [(0, .ref 51), (1, .int p), (2, .int g)]) (st' := [.int ((mz_rg 4 ((mz_s (g_X5_lay M p (-1)) 57 (mz_rs 4 ((g_X5_lay M p (-1)) 57) p g)) 59) p) ||| (1 <<< (g &&& 31))), .int p, .ref 58]) rfl ?_
  refine mz_callV (As := [.int p, .int ((mz_rg 4 ((mz_s (g_X5_lay M p (-1)) 57 (mz_rs 4 ((g_X5_lay M p (-1)) 57) p g)) 59) p) ||| (1 <<< (g &&& 31)))]) (rest := []) C E' (f_Row_set l D cA ρ hI (r := 58) (a := 59) (n := 4) rfl rfl (by decide) (mz_s (g_X5_lay M p (-1)) 57 (mz_rs 4 ((g_X5_lay M p (-1)) 57) p g)) p ((mz_rg 4 ((mz_s (g_X5_lay M p (-1)) 57 (mz_rs 4 ((g_X5_lay M p (-1)) 57) p g)) 59) p) ||| (1 <<< (g &&& 31)))) hy_X6_set wl_X5_37 rfl rfl rfl ⟨Nat.le_of_ble_eq_true rfl, Nat.le_of_ble_eq_true rfl⟩ ⟨Nat.le_refl _, Nat.le_refl _⟩ (Nat.le_of_ble_eq_true rfl) (by decide +kernel) ?_ rfl
  exact mz_vret C E (by decide +kernel) (rfl)
def g_X5_goHome_1 (M : mz_Mem) (i2 : Int32) (a3 : mz_Mem) : mz_Mem := if (mz_rg 4 (a3 57) i2) = (-1) then (g_X5_lay a3 i2 (mz_rg 4 (a3 19) i2)) else a3
theorem g_X5_goHome_1_hs (M : mz_Mem) (i2 : Int32) (a3 : mz_Mem) : mz_hs a3 (g_X5_goHome_1 M i2 a3) := by
  unfold g_X5_goHome_1
  by_cases h1 : (mz_rg 4 (a3 57) i2) = (-1)
  · rw [if_pos h1]
    exact g_X5_lay_hs a3 i2 (mz_rg 4 (a3 19) i2)
  · rw [if_neg h1]
    exact mz_hs_rf

def g_X5_goHome (M : mz_Mem) : mz_Mem := (mz_fr (M 15 1) (g_X5_goHome_1 M) M)
theorem g_X5_goHome_hs (M : mz_Mem) : mz_hs M (g_X5_goHome M) := by
  unfold g_X5_goHome
  exact mz_hs_frp (fun (a : mz_Mem) => a) (fun i a => g_X5_goHome_1_hs M i a)

set_option maxHeartbeats 4000000 in
theorem f_X5_goHome (l : Launch) (D : va_G) (cA : ClassId) (ρ : Nat → Nat) (hI : mz_I ρ mz_lay1) (M : mz_Mem) : mz_M l D vwCl cA ρ mz_lay1 yX5_goHome cX5_goHome 2 none 2 44 [.ref 51] M none (g_X5_goHome M) := by
  refine mz_in0 (by decide +kernel) (Nat.le_of_ble_eq_true rfl) (fun Γ C E => ?_)
  have E' := (⟨_, _, _, E⟩ : ∃ Qc mc ms, mz_E Γ Qc mc ms (mz_A ρ mz_lay1))
  refine mz_go FLX5 KLX5 C [(0, .iconst 0), (1, .istore_n 1)] (by decide +kernel) (pc' := 2) (L' := [(1, .int 0), (0, .ref 51)]) (st' := []) rfl ?_
  refine mz_sub (L' := [(0, .ref 51), (1, .int 0)]) (by simp) ?_
  refine mz_loopI (M 15 1) (g_X5_goHome_1 M) (fun (i : Int32) (a : mz_Mem) => mz_W Γ ρ 2 0 0 (mz_H D vwCl cA ρ mz_lay1 a) 2 [(0, .ref 51), (1, .int i)] []) (fun (a : mz_Mem) => a 15 1 = M 15 1) M rfl (fun i a h => ?_) (fun i2 a3 hi4 hv7 hx5 hb6 => ?_)
  · exact (congrFun (g_X5_goHome_1_hs M i a _ (by decide)) _).trans h
  have hv7 : a3 15 1 = M 15 1 := hv7
  refine mz_go FLX5 KLX5 C [(2, .iload_n 1), (3, .aload_n 0), (4, .getfield 29), (7, .getfield 48)] (by decide +kernel) (pc' := 10) (L' := [(0, .ref 51), (1, .int i2)]) (st' := [.int (a3 15 1), .int i2]) rfl ?_
  refine mz_ige (off := 37) (tgt := 47) C (by decide +kernel) (by decide) (fun h1 => ?_) (fun h1 => ?_)
  · have e10 := hx5 (by rw [hv7] at h1; exact h1)
    subst e10
    refine mz_sub (L' := [(0, .ref 51)]) (by simp) ?_
    exact mz_vret C E (by decide +kernel) (rfl)
  · refine mz_go FLX5 KLX5 C [(13, .aload_n 0), (14, .getfield 23), (17, .iload_n 1)] (by decide +kernel) (pc' := 18) (L' := [(0, .ref 51), (1, .int i2)]) (st' := [.int i2, .ref 56]) rfl ?_
    refine mz_callV (As := [.int i2]) (rest := []) C E' (f_Row_get l D cA ρ hI (r := 56) (a := 57) (n := 4) rfl rfl (by decide) a3 i2) hy_X6_get wl_X5_44 rfl rfl rfl ⟨Nat.le_of_ble_eq_true rfl, Nat.le_of_ble_eq_true rfl⟩ ⟨Nat.le_refl _, Nat.le_refl _⟩ (Nat.le_of_ble_eq_true rfl) (by decide +kernel) ?_ rfl
    refine mz_go FLX5 KLX5 C [(21, .iconst (-1))] (by decide +kernel) (pc' := 22) (L' := [(0, .ref 51), (1, .int i2)]) (st' := [.int (-1), .int (mz_rg 4 (a3 57) i2)]) rfl ?_
    refine mz_ine (off := 19) (tgt := 41) C (by decide +kernel) (by decide) (fun h11 => ?_) (fun h11 => ?_)
    · refine mz_go FLX5 KLX5 C [(41, .iinc 1 1), (44, .goto (-42))] (by decide +kernel) (pc' := 2) (L' := [(1, .int (i2 + 1)), (0, .ref 51)]) (st' := []) rfl ?_
      have hb12 := hb6 (by rw [hv7] at h1; exact h1)
      rw [show g_X5_goHome_1 M i2 a3 = a3 from by unfold g_X5_goHome_1; rw [if_neg h11]] at hb12
      exact mz_sub (by simp) hb12
    · refine mz_go FLX5 KLX5 C [(25, .aload_n 0), (26, .iload_n 1), (27, .aload_n 0), (28, .getfield 29), (31, .getfield 54), (34, .iload_n 1)] (by decide +kernel) (pc' := 35) (L' := [(0, .ref 51), (1, .int i2)]) (st' := [.int i2, .ref 18, .int i2, .ref 51]) rfl ?_
      refine mz_callV (As := [.int i2]) (rest := [.int i2, .ref 51]) C E' (f_Row_get l D cA ρ hI (r := 18) (a := 19) (n := 4) rfl rfl (by decide) a3 i2) hy_X6_get wl_X5_44 rfl rfl rfl ⟨Nat.le_of_ble_eq_true rfl, Nat.le_of_ble_eq_true rfl⟩ ⟨Nat.le_refl _, Nat.le_refl _⟩ (Nat.le_of_ble_eq_true rfl) (by decide +kernel) ?_ rfl
      refine mz_callV (As := [.int i2, .int (mz_rg 4 (a3 19) i2)]) (rest := []) C E' (f_X5_lay l D cA ρ hI a3 i2 (mz_rg 4 (a3 19) i2)) hy_X5_lay wl_X5_41 rfl rfl rfl ⟨Nat.le_of_ble_eq_true rfl, Nat.le_of_ble_eq_true rfl⟩ ⟨Nat.le_refl _, Nat.le_refl _⟩ (Nat.le_of_ble_eq_true rfl) (by decide +kernel) ?_ rfl
      refine mz_go FLX5 KLX5 C [(41, .iinc 1 1), (44, .goto (-42))] (by decide +kernel) (pc' := 2) (L' := [(1, .int (i2 + 1)), (0, .ref 51)]) (st' := []) rfl ?_
      have hb13 := hb6 (by rw [hv7] at h1; exact h1)
      rw [show g_X5_goHome_1 M i2 a3 = (g_X5_lay a3 i2 (mz_rg 4 (a3 19) i2)) from by unfold g_X5_goHome_1; rw [if_pos h11]] at hb13
      exact mz_sub (by simp) hb13
def g_X5_heldByGuest_1 (M : mz_Mem) (g : Int32) (i6 : Int32) : Bool := if (mz_rg 4 (M 57) i6) = g then true else false
def g_X5_heldByGuest (M : mz_Mem) (g : Int32) : Int32 := (match mz_find (M 15 1) (g_X5_heldByGuest_1 M g) with | some i6 => i6 | none => (-1))
set_option maxHeartbeats 4000000 in
theorem f_X5_heldByGuest (l : Launch) (D : va_G) (cA : ClassId) (ρ : Nat → Nat) (hI : mz_I ρ mz_lay1) (M : mz_Mem) (g : Int32) : mz_M l D vwCl cA ρ mz_lay1 yX5_heldByGuest cX5_heldByGuest 3 (some .int) 1 21 [.ref 51, .int g] M (some (.int (g_X5_heldByGuest M g))) M := by
  refine mz_in0 (by decide +kernel) (Nat.le_of_ble_eq_true rfl) (fun Γ C E => ?_)
  have E' := (⟨_, _, _, E⟩ : ∃ Qc mc ms, mz_E Γ Qc mc ms (mz_A ρ mz_lay1))
  refine mz_go FLX5 KLX5 C [(0, .iconst 0), (1, .istore_n 2)] (by decide +kernel) (pc' := 2) (L' := [(2, .int 0), (0, .ref 51), (1, .int g)]) (st' := []) rfl ?_
  refine mz_sub (L' := [(0, .ref 51), (1, .int g), (2, .int 0)]) (by simp) ?_
  refine mz_loopf (M 15 1) (g_X5_heldByGuest_1 M g) (fun i => mz_W Γ ρ 3 0 0 (mz_H D vwCl cA ρ mz_lay1 M) 2 [(0, .ref 51), (1, .int g), (2, .int i)] []) (fun i6 hi5 hx3 hp4 ih2 => ?_)
  refine mz_go FLX5 KLX5 C [(2, .iload_n 2), (3, .aload_n 0), (4, .getfield 29), (7, .getfield 48)] (by decide +kernel) (pc' := 10) (L' := [(0, .ref 51), (1, .int g), (2, .int i6)]) (st' := [.int (M 15 1), .int i6]) rfl ?_
  refine mz_ige (off := 23) (tgt := 33) C (by decide +kernel) (by decide) (fun h1 => ?_) (fun h1 => ?_)
  · have hf7 := hx3 h1
    refine mz_sub (L' := [(0, .ref 51), (1, .int g)]) (by simp) ?_
    refine mz_go FLX5 KLX5 C [(33, .iconst (-1))] (by decide +kernel) (pc' := 34) (L' := [(0, .ref 51), (1, .int g)]) (st' := [.int (-1)]) rfl ?_
    exact mz_iret C E (by decide +kernel) (by unfold g_X5_heldByGuest; rw [hf7]; try rfl) (rfl)
  · refine mz_go FLX5 KLX5 C [(13, .aload_n 0), (14, .getfield 23), (17, .iload_n 2)] (by decide +kernel) (pc' := 18) (L' := [(0, .ref 51), (1, .int g), (2, .int i6)]) (st' := [.int i6, .ref 56]) rfl ?_
    refine mz_callV (As := [.int i6]) (rest := []) C E' (f_Row_get l D cA ρ hI (r := 56) (a := 57) (n := 4) rfl rfl (by decide) M i6) hy_X6_get wl_X5_44 rfl rfl rfl ⟨Nat.le_of_ble_eq_true rfl, Nat.le_of_ble_eq_true rfl⟩ ⟨Nat.le_refl _, Nat.le_refl _⟩ (Nat.le_of_ble_eq_true rfl) (by decide +kernel) ?_ rfl
    refine mz_go FLX5 KLX5 C [(21, .iload_n 1)] (by decide +kernel) (pc' := 22) (L' := [(0, .ref 51), (1, .int g), (2, .int i6)]) (st' := [.int g, .int (mz_rg 4 (M 57) i6)]) rfl ?_
    refine mz_ine (off := 5) (tgt := 27) C (by decide +kernel) (by decide) (fun h8 => ?_) (fun h8 => ?_)
    · refine mz_go FLX5 KLX5 C [(27, .iinc 2 1), (30, .goto (-28))] (by decide +kernel) (pc' := 2) (L' := [(2, .int (i6 + 1)), (0, .ref 51), (1, .int g)]) (st' := []) rfl ?_
      exact mz_sub (by simp) (ih2 h1 (by unfold g_X5_heldByGuest_1; rw [if_neg h8]))
    · refine mz_go FLX5 KLX5 C [(25, .iload_n 2)] (by decide +kernel) (pc' := 26) (L' := [(0, .ref 51), (1, .int g), (2, .int i6)]) (st' := [.int i6]) rfl ?_
      have hf9 := hp4 h1 (by unfold g_X5_heldByGuest_1; rw [if_pos h8])
      exact mz_iret C E (by decide +kernel) (by unfold g_X5_heldByGuest; rw [hf9]; try rfl) (rfl)
def g_X5_lyingIn_1 (M : mz_Mem) (r : Int32) (i2 : Int32) (a3 : Int32) : Int32 := if (mz_rg 4 (M 53) i2) = r then a3 ||| (1 <<< (i2 &&& 31)) else a3
def g_X5_lyingIn (M : mz_Mem) (r : Int32) : Int32 := (mz_fr (M 15 1) (g_X5_lyingIn_1 M r) 0)
set_option maxHeartbeats 4000000 in
theorem f_X5_lyingIn (l : Launch) (D : va_G) (cA : ClassId) (ρ : Nat → Nat) (hI : mz_I ρ mz_lay1) (M : mz_Mem) (r : Int32) : mz_M l D vwCl cA ρ mz_lay1 yX5_lyingIn cX5_lyingIn 4 (some .int) 1 21 [.ref 51, .int r] M (some (.int (g_X5_lyingIn M r))) M := by
  refine mz_in0 (by decide +kernel) (Nat.le_of_ble_eq_true rfl) (fun Γ C E => ?_)
  have E' := (⟨_, _, _, E⟩ : ∃ Qc mc ms, mz_E Γ Qc mc ms (mz_A ρ mz_lay1))
  refine mz_go FLX5 KLX5 C [(0, .iconst 0), (1, .istore_n 2), (2, .iconst 0), (3, .istore_n 3)] (by decide +kernel) (pc' := 4) (L' := [(3, .int 0), (2, .int 0), (0, .ref 51), (1, .int r)]) (st' := []) rfl ?_
  refine mz_sub (L' := [(0, .ref 51), (1, .int r), (2, .int 0), (3, .int 0)]) (by simp) ?_
  refine mz_loop (M 15 1) (g_X5_lyingIn_1 M r) (fun (i : Int32) (a : Int32) => mz_W Γ ρ 4 0 0 (mz_H D vwCl cA ρ mz_lay1 M) 4 [(0, .ref 51), (1, .int r), (2, .int a), (3, .int i)] []) 0 (fun i2 a3 hi4 hx5 hb6 => ?_)
  refine mz_go FLX5 KLX5 C [(4, .iload_n 3), (5, .aload_n 0), (6, .getfield 29), (9, .getfield 48)] (by decide +kernel) (pc' := 12) (L' := [(0, .ref 51), (1, .int r), (2, .int a3), (3, .int i2)]) (st' := [.int (M 15 1), .int i2]) rfl ?_
  refine mz_ige (off := 27) (tgt := 39) C (by decide +kernel) (by decide) (fun h1 => ?_) (fun h1 => ?_)
  · have e10 := hx5 h1
    subst e10
    refine mz_sub (L' := [(0, .ref 51), (1, .int r), (2, .int (mz_fr (M 15 1) (g_X5_lyingIn_1 M r) 0))]) (by simp) ?_
    refine mz_go FLX5 KLX5 C [(39, .iload_n 2)] (by decide +kernel) (pc' := 40) (L' := [(0, .ref 51), (1, .int r), (2, .int (mz_fr (M 15 1) (g_X5_lyingIn_1 M r) 0))]) (st' := [.int (mz_fr (M 15 1) (g_X5_lyingIn_1 M r) 0)]) rfl ?_
    exact mz_iret C E (by decide +kernel) (rfl) (rfl)
  · refine mz_go FLX5 KLX5 C [(15, .aload_n 0), (16, .getfield 14), (19, .iload_n 3)] (by decide +kernel) (pc' := 20) (L' := [(0, .ref 51), (1, .int r), (2, .int a3), (3, .int i2)]) (st' := [.int i2, .ref 52]) rfl ?_
    refine mz_callV (As := [.int i2]) (rest := []) C E' (f_Row_get l D cA ρ hI (r := 52) (a := 53) (n := 4) rfl rfl (by decide) M i2) hy_X6_get wl_X5_44 rfl rfl rfl ⟨Nat.le_of_ble_eq_true rfl, Nat.le_of_ble_eq_true rfl⟩ ⟨Nat.le_refl _, Nat.le_refl _⟩ (Nat.le_of_ble_eq_true rfl) (by decide +kernel) ?_ rfl
    refine mz_go FLX5 KLX5 C [(23, .iload_n 1)] (by decide +kernel) (pc' := 24) (L' := [(0, .ref 51), (1, .int r), (2, .int a3), (3, .int i2)]) (st' := [.int r, .int (mz_rg 4 (M 53) i2)]) rfl ?_
    refine mz_ine (off := 9) (tgt := 33) C (by decide +kernel) (by decide) (fun h11 => ?_) (fun h11 => ?_)
    · refine mz_go FLX5 KLX5 C [(33, .iinc 3 1), (36, .goto (-32))] (by decide +kernel) (pc' := 4) (L' := [(3, .int (i2 + 1)), (0, .ref 51), (1, .int r), (2, .int a3)]) (st' := []) rfl ?_
      have hb12 := hb6 h1
      rw [show g_X5_lyingIn_1 M r i2 a3 = a3 from by unfold g_X5_lyingIn_1; rw [if_neg h11]] at hb12
      exact mz_sub (by simp) hb12
    · refine mz_go FLX5 KLX5 C [(27, .iload_n 2), (28, .iconst 1), (29, .iload_n 3), (30, .ishl), (31, .ior), (32, .istore_n 2), (33, .iinc 3 1), (36, .goto (-32))] (by decide +kernel) (pc' := 4) (L' := [(3, .int (i2 + 1)), (2, .int (a3 ||| (1 <<< (i2 &&& 31)))), (0, .ref 51), (1, .int r)]) (st' := []) rfl ?_
      have hb13 := hb6 h1
      rw [show g_X5_lyingIn_1 M r i2 a3 = a3 ||| (1 <<< (i2 &&& 31)) from by unfold g_X5_lyingIn_1; rw [if_pos h11]] at hb13
      exact mz_sub (by simp) hb13
end
section
def g_X8_runs (M : mz_Mem) (k : Int32) : Int32 := if (mz_rg 12 (M 42) k) = 1 then 1 else 0
set_option maxHeartbeats 4000000 in
theorem f_X8_runs (l : Launch) (D : va_G) (cA : ClassId) (ρ : Nat → Nat) (hI : mz_I ρ mz_lay1) (M : mz_Mem) (k : Int32) : mz_M l D vwCl cA ρ mz_lay1 yX8_runs cX8_runs 2 (some .boolean) 1 21 [.ref 40, .int k] M (some (.int (g_X8_runs M k))) M := by
  refine mz_in0 (by decide +kernel) (Nat.le_of_ble_eq_true rfl) (fun Γ C E => ?_)
  have E' := (⟨_, _, _, E⟩ : ∃ Qc mc ms, mz_E Γ Qc mc ms (mz_A ρ mz_lay1))
  refine mz_go FLX8 KLX8 C [(0, .aload_n 0), (1, .getfield 14), (4, .iload_n 1)] (by decide +kernel) (pc' := 5) (L' := [(0, .ref 40), (1, .int k)]) (st' := [.int k, .ref 41]) rfl ?_
  refine mz_callV (As := [.int k]) (rest := []) C E' (f_Row_get l D cA ρ hI (r := 41) (a := 42) (n := 12) rfl rfl (by decide) M k) hy_X6_get wl_X8_44 rfl rfl rfl ⟨Nat.le_of_ble_eq_true rfl, Nat.le_of_ble_eq_true rfl⟩ ⟨Nat.le_refl _, Nat.le_refl _⟩ (Nat.le_of_ble_eq_true rfl) (by decide +kernel) ?_ rfl
  refine mz_go FLX8 KLX8 C [(8, .iconst 1)] (by decide +kernel) (pc' := 9) (L' := [(0, .ref 40), (1, .int k)]) (st' := [.int 1, .int (mz_rg 12 (M 42) k)]) rfl ?_
  refine mz_ine (off := 7) (tgt := 16) C (by decide +kernel) (by decide) (fun h1 => ?_) (fun h1 => ?_)
  · refine mz_go FLX8 KLX8 C [(16, .iconst 0)] (by decide +kernel) (pc' := 17) (L' := [(0, .ref 40), (1, .int k)]) (st' := [.int 0]) rfl ?_
    exact mz_zret C E (by decide +kernel) (Or.inl rfl) (by unfold g_X8_runs; rw [if_neg h1]; try rfl) (rfl)
  · refine mz_go FLX8 KLX8 C [(12, .iconst 1), (13, .goto 4)] (by decide +kernel) (pc' := 17) (L' := [(0, .ref 40), (1, .int k)]) (st' := [.int 1]) rfl ?_
    exact mz_zret C E (by decide +kernel) (Or.inr rfl) (by unfold g_X8_runs; rw [if_pos h1]; try rfl) (rfl)
def g_X8_waits (M : mz_Mem) (k : Int32) : Int32 := if (mz_rg 12 (M 42) k) = 0 then 1 else 0
set_option maxHeartbeats 4000000 in
theorem f_X8_waits (l : Launch) (D : va_G) (cA : ClassId) (ρ : Nat → Nat) (hI : mz_I ρ mz_lay1) (M : mz_Mem) (k : Int32) : mz_M l D vwCl cA ρ mz_lay1 yX8_waits cX8_waits 2 (some .boolean) 1 21 [.ref 40, .int k] M (some (.int (g_X8_waits M k))) M := by
  refine mz_in0 (by decide +kernel) (Nat.le_of_ble_eq_true rfl) (fun Γ C E => ?_)
  have E' := (⟨_, _, _, E⟩ : ∃ Qc mc ms, mz_E Γ Qc mc ms (mz_A ρ mz_lay1))
  refine mz_go FLX8 KLX8 C [(0, .aload_n 0), (1, .getfield 14), (4, .iload_n 1)] (by decide +kernel) (pc' := 5) (L' := [(0, .ref 40), (1, .int k)]) (st' := [.int k, .ref 41]) rfl ?_
  refine mz_callV (As := [.int k]) (rest := []) C E' (f_Row_get l D cA ρ hI (r := 41) (a := 42) (n := 12) rfl rfl (by decide) M k) hy_X6_get wl_X8_44 rfl rfl rfl ⟨Nat.le_of_ble_eq_true rfl, Nat.le_of_ble_eq_true rfl⟩ ⟨Nat.le_refl _, Nat.le_refl _⟩ (Nat.le_of_ble_eq_true rfl) (by decide +kernel) ?_ rfl
  refine mz_zne (off := 7) (tgt := 15) C (by decide +kernel) (by decide) (fun h1 => ?_) (fun h1 => ?_)
  · refine mz_go FLX8 KLX8 C [(15, .iconst 0)] (by decide +kernel) (pc' := 16) (L' := [(0, .ref 40), (1, .int k)]) (st' := [.int 0]) rfl ?_
    exact mz_zret C E (by decide +kernel) (Or.inl rfl) (by unfold g_X8_waits; rw [if_neg h1]; try rfl) (rfl)
  · refine mz_go FLX8 KLX8 C [(11, .iconst 1), (12, .goto 4)] (by decide +kernel) (pc' := 16) (L' := [(0, .ref 40), (1, .int k)]) (st' := [.int 1]) rfl ?_
    exact mz_zret C E (by decide +kernel) (Or.inr rfl) (by unfold g_X8_waits; rw [if_pos h1]; try rfl) (rfl)
def g_X8_cut (M : mz_Mem) (k : Int32) : mz_Mem := (mz_s (mz_s (mz_s M 42 (mz_rs 12 (M 42) k 3)) 44 (mz_rs 12 ((mz_s M 42 (mz_rs 12 (M 42) k 3)) 44) k 0)) 50 (mz_ra 12 ((mz_s (mz_s M 42 (mz_rs 12 (M 42) k 3)) 44 (mz_rs 12 ((mz_s M 42 (mz_rs 12 (M 42) k 3)) 44) k 0)) 50) k 1))
theorem g_X8_cut_hs (M : mz_Mem) (k : Int32) : mz_hs M (g_X8_cut M k) := by
  unfold g_X8_cut
  exact ((mz_hs_s (by decide)).trans (mz_hs_s (by decide))).trans (mz_hs_s (by decide))

set_option maxHeartbeats 4000000 in
theorem f_X8_cut (l : Launch) (D : va_G) (cA : ClassId) (ρ : Nat → Nat) (hI : mz_I ρ mz_lay1) (M : mz_Mem) (k : Int32) : mz_M l D vwCl cA ρ mz_lay1 yX8_cut cX8_cut 2 none 1 22 [.ref 40, .int k] M none (g_X8_cut M k) := by
  refine mz_in0 (by decide +kernel) (Nat.le_of_ble_eq_true rfl) (fun Γ C E => ?_)
  have E' := (⟨_, _, _, E⟩ : ∃ Qc mc ms, mz_E Γ Qc mc ms (mz_A ρ mz_lay1))
  refine mz_go FLX8 KLX8 C [(0, .aload_n 0), (1, .getfield 14), (4, .iload_n 1), (5, .iconst 3)] (by decide +kernel) (pc' := 6) (L' := [(0, .ref 40), (1, .int k)]) (st' := [.int 3, .int k, .ref 41]) rfl ?_
  refine mz_callV (As := [.int k, .int 3]) (rest := []) C E' (f_Row_set l D cA ρ hI (r := 41) (a := 42) (n := 12) rfl rfl (by decide) M k 3) hy_X6_set wl_X8_63 rfl rfl rfl ⟨Nat.le_of_ble_eq_true rfl, Nat.le_of_ble_eq_true rfl⟩ ⟨Nat.le_refl _, Nat.le_refl _⟩ (Nat.le_of_ble_eq_true rfl) (by decide +kernel) ?_ rfl
  refine mz_go FLX8 KLX8 C [(9, .aload_n 0), (10, .getfield 20), (13, .iload_n 1), (14, .iconst 0)] (by decide +kernel) (pc' := 15) (L' := [(0, .ref 40), (1, .int k)]) (st' := [.int 0, .int k, .ref 43]) rfl ?_
  refine mz_callV (As := [.int k, .int 0]) (rest := []) C E' (f_Row_set l D cA ρ hI (r := 43) (a := 44) (n := 12) rfl rfl (by decide) (mz_s M 42 (mz_rs 12 (M 42) k 3)) k 0) hy_X6_set wl_X8_63 rfl rfl rfl ⟨Nat.le_of_ble_eq_true rfl, Nat.le_of_ble_eq_true rfl⟩ ⟨Nat.le_refl _, Nat.le_refl _⟩ (Nat.le_of_ble_eq_true rfl) (by decide +kernel) ?_ rfl
  refine mz_go FLX8 KLX8 C [(18, .aload_n 0), (19, .getfield 29), (22, .iload_n 1), (23, .iconst 1)] (by decide +kernel) (pc' := 24) (L' := [(0, .ref 40), (1, .int k)]) (st' := [.int 1, .int k, .ref 49]) rfl ?_
  refine mz_callV (As := [.int k, .int 1]) (rest := []) C E' (f_Row_add l D cA ρ hI (r := 49) (a := 50) (n := 12) rfl rfl (by decide) (mz_s (mz_s M 42 (mz_rs 12 (M 42) k 3)) 44 (mz_rs 12 ((mz_s M 42 (mz_rs 12 (M 42) k 3)) 44) k 0)) k 1) hy_X6_add wl_X8_67 rfl rfl rfl ⟨Nat.le_of_ble_eq_true rfl, Nat.le_of_ble_eq_true rfl⟩ ⟨Nat.le_refl _, Nat.le_refl _⟩ (Nat.le_of_ble_eq_true rfl) (by decide +kernel) ?_ rfl
  exact mz_vret C E (by decide +kernel) (rfl)
def g_X8_restart_1 (M : mz_Mem) (i2 : Int32) (a3 : mz_Mem) : mz_Mem := if (g_X8_waits a3 i2) = 0 then (if (g_X8_runs a3 i2) = 0 then (mz_s (mz_s a3 42 (mz_rs 12 (a3 42) i2 0)) 46 (mz_rs 12 ((mz_s a3 42 (mz_rs 12 (a3 42) i2 0)) 46) i2 0)) else (mz_s (mz_s (g_X8_cut a3 i2) 42 (mz_rs 12 ((g_X8_cut a3 i2) 42) i2 0)) 46 (mz_rs 12 ((mz_s (g_X8_cut a3 i2) 42 (mz_rs 12 ((g_X8_cut a3 i2) 42) i2 0)) 46) i2 0))) else (mz_s (mz_s (g_X8_cut a3 i2) 42 (mz_rs 12 ((g_X8_cut a3 i2) 42) i2 0)) 46 (mz_rs 12 ((mz_s (g_X8_cut a3 i2) 42 (mz_rs 12 ((g_X8_cut a3 i2) 42) i2 0)) 46) i2 0))
theorem g_X8_restart_1_hs (M : mz_Mem) (i2 : Int32) (a3 : mz_Mem) : mz_hs a3 (g_X8_restart_1 M i2 a3) := by
  unfold g_X8_restart_1
  by_cases h1 : (g_X8_waits a3 i2) = 0
  · rw [if_pos h1]
    by_cases h2 : (g_X8_runs a3 i2) = 0
    · rw [if_pos h2]
      exact (mz_hs_s (by decide)).trans (mz_hs_s (by decide))
    · rw [if_neg h2]
      exact ((g_X8_cut_hs a3 i2).trans (mz_hs_s (by decide))).trans (mz_hs_s (by decide))
  · rw [if_neg h1]
    exact ((g_X8_cut_hs a3 i2).trans (mz_hs_s (by decide))).trans (mz_hs_s (by decide))

def g_X8_restart (M : mz_Mem) : mz_Mem := (mz_fr (M 15 2) (g_X8_restart_1 M) M)
theorem g_X8_restart_hs (M : mz_Mem) : mz_hs M (g_X8_restart M) := by
  unfold g_X8_restart
  exact mz_hs_frp (fun (a : mz_Mem) => a) (fun i a => g_X8_restart_1_hs M i a)

set_option maxHeartbeats 4000000 in
theorem f_X8_restart (l : Launch) (D : va_G) (cA : ClassId) (ρ : Nat → Nat) (hI : mz_I ρ mz_lay1) (M : mz_Mem) : mz_M l D vwCl cA ρ mz_lay1 yX8_restart cX8_restart 2 none 2 43 [.ref 40] M none (g_X8_restart M) := by
  refine mz_in0 (by decide +kernel) (Nat.le_of_ble_eq_true rfl) (fun Γ C E => ?_)
  have E' := (⟨_, _, _, E⟩ : ∃ Qc mc ms, mz_E Γ Qc mc ms (mz_A ρ mz_lay1))
  refine mz_go FLX8 KLX8 C [(0, .iconst 0), (1, .istore_n 1)] (by decide +kernel) (pc' := 2) (L' := [(1, .int 0), (0, .ref 40)]) (st' := []) rfl ?_
  refine mz_sub (L' := [(0, .ref 40), (1, .int 0)]) (by simp) ?_
  refine mz_loopI (M 15 2) (g_X8_restart_1 M) (fun (i : Int32) (a : mz_Mem) => mz_W Γ ρ 2 0 0 (mz_H D vwCl cA ρ mz_lay1 a) 2 [(0, .ref 40), (1, .int i)] []) (fun (a : mz_Mem) => a 15 2 = M 15 2) M rfl (fun i a h => ?_) (fun i2 a3 hi4 hv7 hx5 hb6 => ?_)
  · exact (congrFun (g_X8_restart_1_hs M i a _ (by decide)) _).trans h
  have hv7 : a3 15 2 = M 15 2 := hv7
  refine mz_go FLX8 KLX8 C [(2, .iload_n 1), (3, .aload_n 0), (4, .getfield 32), (7, .getfield 48)] (by decide +kernel) (pc' := 10) (L' := [(0, .ref 40), (1, .int i2)]) (st' := [.int (a3 15 2), .int i2]) rfl ?_
  refine mz_ige (off := 48) (tgt := 58) C (by decide +kernel) (by decide) (fun h1 => ?_) (fun h1 => ?_)
  · have e10 := hx5 (by rw [hv7] at h1; exact h1)
    subst e10
    refine mz_sub (L' := [(0, .ref 40)]) (by simp) ?_
    exact mz_vret C E (by decide +kernel) (rfl)
  · refine mz_go FLX8 KLX8 C [(13, .aload_n 0), (14, .iload_n 1)] (by decide +kernel) (pc' := 15) (L' := [(0, .ref 40), (1, .int i2)]) (st' := [.int i2, .ref 40]) rfl ?_
    refine mz_callV (As := [.int i2]) (rest := []) C E' (f_X8_waits l D cA ρ hI a3 i2) hy_X8_waits wl_X8_53 rfl rfl rfl ⟨Nat.le_of_ble_eq_true rfl, Nat.le_of_ble_eq_true rfl⟩ ⟨Nat.le_refl _, Nat.le_refl _⟩ (Nat.le_of_ble_eq_true rfl) (by decide +kernel) ?_ rfl
    refine mz_zne (off := 11) (tgt := 29) C (by decide +kernel) (by decide) (fun h11 => ?_) (fun h11 => ?_)
    · refine mz_go FLX8 KLX8 C [(29, .aload_n 0), (30, .iload_n 1)] (by decide +kernel) (pc' := 31) (L' := [(0, .ref 40), (1, .int i2)]) (st' := [.int i2, .ref 40]) rfl ?_
      refine mz_callV (As := [.int i2]) (rest := []) C E' (f_X8_cut l D cA ρ hI a3 i2) hy_X8_cut wl_X8_60 rfl rfl rfl ⟨Nat.le_of_ble_eq_true rfl, Nat.le_of_ble_eq_true rfl⟩ ⟨Nat.le_refl _, Nat.le_refl _⟩ (Nat.le_of_ble_eq_true rfl) (by decide +kernel) ?_ rfl
      refine mz_go FLX8 KLX8 C [(34, .aload_n 0), (35, .getfield 14), (38, .iload_n 1), (39, .iconst 0)] (by decide +kernel) (pc' := 40) (L' := [(0, .ref 40), (1, .int i2)]) (st' := [.int 0, .int i2, .ref 41]) rfl ?_
      refine mz_callV (As := [.int i2, .int 0]) (rest := []) C E' (f_Row_set l D cA ρ hI (r := 41) (a := 42) (n := 12) rfl rfl (by decide) (g_X8_cut a3 i2) i2 0) hy_X6_set wl_X8_63 rfl rfl rfl ⟨Nat.le_of_ble_eq_true rfl, Nat.le_of_ble_eq_true rfl⟩ ⟨Nat.le_refl _, Nat.le_refl _⟩ (Nat.le_of_ble_eq_true rfl) (by decide +kernel) ?_ rfl
      refine mz_go FLX8 KLX8 C [(43, .aload_n 0), (44, .getfield 23), (47, .iload_n 1), (48, .iconst 0)] (by decide +kernel) (pc' := 49) (L' := [(0, .ref 40), (1, .int i2)]) (st' := [.int 0, .int i2, .ref 45]) rfl ?_
      refine mz_callV (As := [.int i2, .int 0]) (rest := []) C E' (f_Row_set l D cA ρ hI (r := 45) (a := 46) (n := 12) rfl rfl (by decide) (mz_s (g_X8_cut a3 i2) 42 (mz_rs 12 ((g_X8_cut a3 i2) 42) i2 0)) i2 0) hy_X6_set wl_X8_63 rfl rfl rfl ⟨Nat.le_of_ble_eq_true rfl, Nat.le_of_ble_eq_true rfl⟩ ⟨Nat.le_refl _, Nat.le_refl _⟩ (Nat.le_of_ble_eq_true rfl) (by decide +kernel) ?_ rfl
      refine mz_go FLX8 KLX8 C [(52, .iinc 1 1), (55, .goto (-53))] (by decide +kernel) (pc' := 2) (L' := [(1, .int (i2 + 1)), (0, .ref 40)]) (st' := []) rfl ?_
      have hb12 := hb6 (by rw [hv7] at h1; exact h1)
      rw [show g_X8_restart_1 M i2 a3 = (mz_s (mz_s (g_X8_cut a3 i2) 42 (mz_rs 12 ((g_X8_cut a3 i2) 42) i2 0)) 46 (mz_rs 12 ((mz_s (g_X8_cut a3 i2) 42 (mz_rs 12 ((g_X8_cut a3 i2) 42) i2 0)) 46) i2 0)) from by unfold g_X8_restart_1; rw [if_neg h11]] at hb12
      exact mz_sub (by simp) hb12
    · refine mz_go FLX8 KLX8 C [(21, .aload_n 0), (22, .iload_n 1)] (by decide +kernel) (pc' := 23) (L' := [(0, .ref 40), (1, .int i2)]) (st' := [.int i2, .ref 40]) rfl ?_
      refine mz_callV (As := [.int i2]) (rest := []) C E' (f_X8_runs l D cA ρ hI a3 i2) hy_X8_runs wl_X8_57 rfl rfl rfl ⟨Nat.le_of_ble_eq_true rfl, Nat.le_of_ble_eq_true rfl⟩ ⟨Nat.le_refl _, Nat.le_refl _⟩ (Nat.le_of_ble_eq_true rfl) (by decide +kernel) ?_ rfl
      refine mz_zeq (off := 8) (tgt := 34) C (by decide +kernel) (by decide) (fun h13 => ?_) (fun h13 => ?_)
      · refine mz_go FLX8 KLX8 C [(34, .aload_n 0), (35, .getfield 14), (38, .iload_n 1), (39, .iconst 0)] (by decide +kernel) (pc' := 40) (L' := [(0, .ref 40), (1, .int i2)]) (st' := [.int 0, .int i2, .ref 41]) rfl ?_
        refine mz_callV (As := [.int i2, .int 0]) (rest := []) C E' (f_Row_set l D cA ρ hI (r := 41) (a := 42) (n := 12) rfl rfl (by decide) a3 i2 0) hy_X6_set wl_X8_63 rfl rfl rfl ⟨Nat.le_of_ble_eq_true rfl, Nat.le_of_ble_eq_true rfl⟩ ⟨Nat.le_refl _, Nat.le_refl _⟩ (Nat.le_of_ble_eq_true rfl) (by decide +kernel) ?_ rfl
        refine mz_go FLX8 KLX8 C [(43, .aload_n 0), (44, .getfield 23), (47, .iload_n 1), (48, .iconst 0)] (by decide +kernel) (pc' := 49) (L' := [(0, .ref 40), (1, .int i2)]) (st' := [.int 0, .int i2, .ref 45]) rfl ?_
        refine mz_callV (As := [.int i2, .int 0]) (rest := []) C E' (f_Row_set l D cA ρ hI (r := 45) (a := 46) (n := 12) rfl rfl (by decide) (mz_s a3 42 (mz_rs 12 (a3 42) i2 0)) i2 0) hy_X6_set wl_X8_63 rfl rfl rfl ⟨Nat.le_of_ble_eq_true rfl, Nat.le_of_ble_eq_true rfl⟩ ⟨Nat.le_refl _, Nat.le_refl _⟩ (Nat.le_of_ble_eq_true rfl) (by decide +kernel) ?_ rfl
        refine mz_go FLX8 KLX8 C [(52, .iinc 1 1), (55, .goto (-53))] (by decide +kernel) (pc' := 2) (L' := [(1, .int (i2 + 1)), (0, .ref 40)]) (st' := []) rfl ?_
        have hb14 := hb6 (by rw [hv7] at h1; exact h1)
        rw [show g_X8_restart_1 M i2 a3 = (mz_s (mz_s a3 42 (mz_rs 12 (a3 42) i2 0)) 46 (mz_rs 12 ((mz_s a3 42 (mz_rs 12 (a3 42) i2 0)) 46) i2 0)) from by unfold g_X8_restart_1; rw [if_pos h11, if_pos h13]] at hb14
        exact mz_sub (by simp) hb14
      · refine mz_go FLX8 KLX8 C [(29, .aload_n 0), (30, .iload_n 1)] (by decide +kernel) (pc' := 31) (L' := [(0, .ref 40), (1, .int i2)]) (st' := [.int i2, .ref 40]) rfl ?_
        refine mz_callV (As := [.int i2]) (rest := []) C E' (f_X8_cut l D cA ρ hI a3 i2) hy_X8_cut wl_X8_60 rfl rfl rfl ⟨Nat.le_of_ble_eq_true rfl, Nat.le_of_ble_eq_true rfl⟩ ⟨Nat.le_refl _, Nat.le_refl _⟩ (Nat.le_of_ble_eq_true rfl) (by decide +kernel) ?_ rfl
        refine mz_go FLX8 KLX8 C [(34, .aload_n 0), (35, .getfield 14), (38, .iload_n 1), (39, .iconst 0)] (by decide +kernel) (pc' := 40) (L' := [(0, .ref 40), (1, .int i2)]) (st' := [.int 0, .int i2, .ref 41]) rfl ?_
        refine mz_callV (As := [.int i2, .int 0]) (rest := []) C E' (f_Row_set l D cA ρ hI (r := 41) (a := 42) (n := 12) rfl rfl (by decide) (g_X8_cut a3 i2) i2 0) hy_X6_set wl_X8_63 rfl rfl rfl ⟨Nat.le_of_ble_eq_true rfl, Nat.le_of_ble_eq_true rfl⟩ ⟨Nat.le_refl _, Nat.le_refl _⟩ (Nat.le_of_ble_eq_true rfl) (by decide +kernel) ?_ rfl
        refine mz_go FLX8 KLX8 C [(43, .aload_n 0), (44, .getfield 23), (47, .iload_n 1), (48, .iconst 0)] (by decide +kernel) (pc' := 49) (L' := [(0, .ref 40), (1, .int i2)]) (st' := [.int 0, .int i2, .ref 45]) rfl ?_
        refine mz_callV (As := [.int i2, .int 0]) (rest := []) C E' (f_Row_set l D cA ρ hI (r := 45) (a := 46) (n := 12) rfl rfl (by decide) (mz_s (g_X8_cut a3 i2) 42 (mz_rs 12 ((g_X8_cut a3 i2) 42) i2 0)) i2 0) hy_X6_set wl_X8_63 rfl rfl rfl ⟨Nat.le_of_ble_eq_true rfl, Nat.le_of_ble_eq_true rfl⟩ ⟨Nat.le_refl _, Nat.le_refl _⟩ (Nat.le_of_ble_eq_true rfl) (by decide +kernel) ?_ rfl
        refine mz_go FLX8 KLX8 C [(52, .iinc 1 1), (55, .goto (-53))] (by decide +kernel) (pc' := 2) (L' := [(1, .int (i2 + 1)), (0, .ref 40)]) (st' := []) rfl ?_
        have hb15 := hb6 (by rw [hv7] at h1; exact h1)
        rw [show g_X8_restart_1 M i2 a3 = (mz_s (mz_s (g_X8_cut a3 i2) 42 (mz_rs 12 ((g_X8_cut a3 i2) 42) i2 0)) 46 (mz_rs 12 ((mz_s (g_X8_cut a3 i2) 42 (mz_rs 12 ((g_X8_cut a3 i2) 42) i2 0)) 46) i2 0)) from by unfold g_X8_restart_1; rw [if_pos h11, if_neg h13]] at hb15
        exact mz_sub (by simp) hb15
def g_X8_begin (M : mz_Mem) (k : Int32) : mz_Mem := (mz_s (mz_s M 42 (mz_rs 12 (M 42) k 1)) 44 (mz_rs 12 ((mz_s M 42 (mz_rs 12 (M 42) k 1)) 44) k (mz_rg 12 ((mz_s M 42 (mz_rs 12 (M 42) k 1)) 25) k)))
theorem g_X8_begin_hs (M : mz_Mem) (k : Int32) : mz_hs M (g_X8_begin M k) := by
  unfold g_X8_begin
  exact (mz_hs_s (by decide)).trans (mz_hs_s (by decide))

set_option maxHeartbeats 4000000 in
theorem f_X8_begin (l : Launch) (D : va_G) (cA : ClassId) (ρ : Nat → Nat) (hI : mz_I ρ mz_lay1) (M : mz_Mem) (k : Int32) : mz_M l D vwCl cA ρ mz_lay1 yX8_begin cX8_begin 2 none 1 22 [.ref 40, .int k] M none (g_X8_begin M k) := by
  refine mz_in0 (by decide +kernel) (Nat.le_of_ble_eq_true rfl) (fun Γ C E => ?_)
  have E' := (⟨_, _, _, E⟩ : ∃ Qc mc ms, mz_E Γ Qc mc ms (mz_A ρ mz_lay1))
  refine mz_go FLX8 KLX8 C [(0, .aload_n 0), (1, .getfield 14), (4, .iload_n 1), (5, .iconst 1)] (by decide +kernel) (pc' := 6) (L' := [(0, .ref 40), (1, .int k)]) (st' := [.int 1, .int k, .ref 41]) rfl ?_
  refine mz_callV (As := [.int k, .int 1]) (rest := []) C E' (f_Row_set l D cA ρ hI (r := 41) (a := 42) (n := 12) rfl rfl (by decide) M k 1) hy_X6_set wl_X8_63 rfl rfl rfl ⟨Nat.le_of_ble_eq_true rfl, Nat.le_of_ble_eq_true rfl⟩ ⟨Nat.le_refl _, Nat.le_refl _⟩ (Nat.le_of_ble_eq_true rfl) (by decide +kernel) ?_ rfl
  refine mz_go FLX8 KLX8 C [(9, .aload_n 0), (10, .getfield 20), (13, .iload_n 1), (14, .aload_n 0), (15, .getfield 32), (18, .getfield 70), (21, .iload_n 1)] (by decide +kernel) (pc' := 22) (L' := [(0, .ref 40), (1, .int k)]) (st' := [.int k, .ref 24, .int k, .ref 43]) rfl ?_
  refine mz_callV (As := [.int k]) (rest := [.int k, .ref 43]) C E' (f_Row_get l D cA ρ hI (r := 24) (a := 25) (n := 12) rfl rfl (by decide) (mz_s M 42 (mz_rs 12 (M 42) k 1)) k) hy_X6_get wl_X8_44 rfl rfl rfl ⟨Nat.le_of_ble_eq_true rfl, Nat.le_of_ble_eq_true rfl⟩ ⟨Nat.le_refl _, Nat.le_refl _⟩ (Nat.le_of_ble_eq_true rfl) (by decide +kernel) ?_ rfl
  refine mz_callV (As := [.int k, .int (mz_rg 12 ((mz_s M 42 (mz_rs 12 (M 42) k 1)) 25) k)]) (rest := []) C E' (f_Row_set l D cA ρ hI (r := 43) (a := 44) (n := 12) rfl rfl (by decide) (mz_s M 42 (mz_rs 12 (M 42) k 1)) k (mz_rg 12 ((mz_s M 42 (mz_rs 12 (M 42) k 1)) 25) k)) hy_X6_set wl_X8_63 rfl rfl rfl ⟨Nat.le_of_ble_eq_true rfl, Nat.le_of_ble_eq_true rfl⟩ ⟨Nat.le_refl _, Nat.le_refl _⟩ (Nat.le_of_ble_eq_true rfl) (by decide +kernel) ?_ rfl
  exact mz_vret C E (by decide +kernel) (rfl)
def g_X8_delay (M : mz_Mem) (k : Int32) : mz_Mem := if (mz_rg 12 ((mz_s (mz_s M 46 (mz_ra 12 (M 46) k 1)) 40 (upd ((mz_s M 46 (mz_ra 12 (M 46) k 1)) 40) 6 (((mz_s M 46 (mz_ra 12 (M 46) k 1)) 40 6) + 1))) 46) k) < 5 then (mz_s (mz_s M 46 (mz_ra 12 (M 46) k 1)) 40 (upd ((mz_s M 46 (mz_ra 12 (M 46) k 1)) 40) 6 (((mz_s M 46 (mz_ra 12 (M 46) k 1)) 40 6) + 1))) else (g_X8_cut (mz_s (mz_s M 46 (mz_ra 12 (M 46) k 1)) 40 (upd ((mz_s M 46 (mz_ra 12 (M 46) k 1)) 40) 6 (((mz_s M 46 (mz_ra 12 (M 46) k 1)) 40 6) + 1))) k)
theorem g_X8_delay_hs (M : mz_Mem) (k : Int32) : mz_hs M (g_X8_delay M k) := by
  unfold g_X8_delay
  by_cases h1 : (mz_rg 12 ((mz_s (mz_s M 46 (mz_ra 12 (M 46) k 1)) 40 (upd ((mz_s M 46 (mz_ra 12 (M 46) k 1)) 40) 6 (((mz_s M 46 (mz_ra 12 (M 46) k 1)) 40 6) + 1))) 46) k) < 5
  · rw [if_pos h1]
    exact (mz_hs_s (by decide)).trans (mz_hs_s (by decide))
  · rw [if_neg h1]
    exact ((mz_hs_s (by decide)).trans (mz_hs_s (by decide))).trans (g_X8_cut_hs (mz_s (mz_s M 46 (mz_ra 12 (M 46) k 1)) 40 (upd ((mz_s M 46 (mz_ra 12 (M 46) k 1)) 40) 6 (((mz_s M 46 (mz_ra 12 (M 46) k 1)) 40 6) + 1))) k)

set_option maxHeartbeats 4000000 in
theorem f_X8_delay (l : Launch) (D : va_G) (cA : ClassId) (ρ : Nat → Nat) (hI : mz_I ρ mz_lay1) (M : mz_Mem) (k : Int32) : mz_M l D vwCl cA ρ mz_lay1 yX8_delay cX8_delay 2 none 2 43 [.ref 40, .int k] M none (g_X8_delay M k) := by
  refine mz_in0 (by decide +kernel) (Nat.le_of_ble_eq_true rfl) (fun Γ C E => ?_)
  have E' := (⟨_, _, _, E⟩ : ∃ Qc mc ms, mz_E Γ Qc mc ms (mz_A ρ mz_lay1))
  refine mz_go FLX8 KLX8 C [(0, .aload_n 0), (1, .getfield 23), (4, .iload_n 1), (5, .iconst 1)] (by decide +kernel) (pc' := 6) (L' := [(0, .ref 40), (1, .int k)]) (st' := [.int 1, .int k, .ref 45]) rfl ?_
  refine mz_callV (As := [.int k, .int 1]) (rest := []) C E' (f_Row_add l D cA ρ hI (r := 45) (a := 46) (n := 12) rfl rfl (by decide) M k 1) hy_X6_add wl_X8_67 rfl rfl rfl ⟨Nat.le_of_ble_eq_true rfl, Nat.le_of_ble_eq_true rfl⟩ ⟨Nat.le_refl _, Nat.le_refl _⟩ (Nat.le_of_ble_eq_true rfl) (by decide +kernel) ?_ rfl
  refine mz_go FLX8 KLX8 C [(9, .aload_n 0), (10, .dup), (11, .getfield 40), (14, .iconst 1), (15, .iadd)] (by decide +kernel) (pc' := 16) (L' := [(0, .ref 40), (1, .int k)]) (st' := [.int (((mz_s M 46 (mz_ra 12 (M 46) k 1)) 40 6) + 1), .ref 40]) rfl ?_
  refine mz_put (id := 40) (ci := 8) (j := 6) (T := TX8) (N := 7) C E' hI rfl rfl rfl (by decide) iu_X8 tyX8 tyX8_ok nmX8 wf_X8_40 rfl (by decide +kernel) (by decide +kernel) ?_
  refine mz_go FLX8 KLX8 C [(19, .aload_n 0), (20, .getfield 23), (23, .iload_n 1)] (by decide +kernel) (pc' := 24) (L' := [(0, .ref 40), (1, .int k)]) (st' := [.int k, .ref 45]) rfl ?_
  refine mz_callV (As := [.int k]) (rest := []) C E' (f_Row_get l D cA ρ hI (r := 45) (a := 46) (n := 12) rfl rfl (by decide) (mz_s (mz_s M 46 (mz_ra 12 (M 46) k 1)) 40 (upd ((mz_s M 46 (mz_ra 12 (M 46) k 1)) 40) 6 (((mz_s M 46 (mz_ra 12 (M 46) k 1)) 40 6) + 1))) k) hy_X6_get wl_X8_44 rfl rfl rfl ⟨Nat.le_of_ble_eq_true rfl, Nat.le_of_ble_eq_true rfl⟩ ⟨Nat.le_refl _, Nat.le_refl _⟩ (Nat.le_of_ble_eq_true rfl) (by decide +kernel) ?_ rfl
  refine mz_go FLX8 KLX8 C [(27, .iconst 5)] (by decide +kernel) (pc' := 28) (L' := [(0, .ref 40), (1, .int k)]) (st' := [.int 5, .int (mz_rg 12 ((mz_s (mz_s M 46 (mz_ra 12 (M 46) k 1)) 40 (upd ((mz_s M 46 (mz_ra 12 (M 46) k 1)) 40) 6 (((mz_s M 46 (mz_ra 12 (M 46) k 1)) 40 6) + 1))) 46) k)]) rfl ?_
  refine mz_ilt (off := 8) (tgt := 36) C (by decide +kernel) (by decide) (fun h1 => ?_) (fun h1 => ?_)
  · exact mz_vret C E (by decide +kernel) (by unfold g_X8_delay; rw [if_pos h1]; try rfl)
  · refine mz_go FLX8 KLX8 C [(31, .aload_n 0), (32, .iload_n 1)] (by decide +kernel) (pc' := 33) (L' := [(0, .ref 40), (1, .int k)]) (st' := [.int k, .ref 40]) rfl ?_
    refine mz_callV (As := [.int k]) (rest := []) C E' (f_X8_cut l D cA ρ hI (mz_s (mz_s M 46 (mz_ra 12 (M 46) k 1)) 40 (upd ((mz_s M 46 (mz_ra 12 (M 46) k 1)) 40) 6 (((mz_s M 46 (mz_ra 12 (M 46) k 1)) 40 6) + 1))) k) hy_X8_cut wl_X8_60 rfl rfl rfl ⟨Nat.le_of_ble_eq_true rfl, Nat.le_of_ble_eq_true rfl⟩ ⟨Nat.le_refl _, Nat.le_refl _⟩ (Nat.le_of_ble_eq_true rfl) (by decide +kernel) ?_ rfl
    exact mz_vret C E (by decide +kernel) (by unfold g_X8_delay; rw [if_neg h1]; try rfl)
def g_X8_goOn (M : mz_Mem) (k : Int32) : mz_Mem := if 0 < (mz_rg 12 ((mz_s M 44 (mz_ra 12 (M 44) k (-1))) 44) k) then (mz_s M 44 (mz_ra 12 (M 44) k (-1))) else (mz_s (mz_s (mz_s M 44 (mz_ra 12 (M 44) k (-1))) 42 (mz_rs 12 ((mz_s M 44 (mz_ra 12 (M 44) k (-1))) 42) k 2)) 48 (mz_ra 12 ((mz_s (mz_s M 44 (mz_ra 12 (M 44) k (-1))) 42 (mz_rs 12 ((mz_s M 44 (mz_ra 12 (M 44) k (-1))) 42) k 2)) 48) k 1))
theorem g_X8_goOn_hs (M : mz_Mem) (k : Int32) : mz_hs M (g_X8_goOn M k) := by
  unfold g_X8_goOn
  by_cases h1 : 0 < (mz_rg 12 ((mz_s M 44 (mz_ra 12 (M 44) k (-1))) 44) k)
  · rw [if_pos h1]
    exact mz_hs_s (by decide)
  · rw [if_neg h1]
    exact ((mz_hs_s (by decide)).trans (mz_hs_s (by decide))).trans (mz_hs_s (by decide))

set_option maxHeartbeats 4000000 in
theorem f_X8_goOn (l : Launch) (D : va_G) (cA : ClassId) (ρ : Nat → Nat) (hI : mz_I ρ mz_lay1) (M : mz_Mem) (k : Int32) : mz_M l D vwCl cA ρ mz_lay1 yX8_goOn cX8_goOn 2 none 1 22 [.ref 40, .int k] M none (g_X8_goOn M k) := by
  refine mz_in0 (by decide +kernel) (Nat.le_of_ble_eq_true rfl) (fun Γ C E => ?_)
  have E' := (⟨_, _, _, E⟩ : ∃ Qc mc ms, mz_E Γ Qc mc ms (mz_A ρ mz_lay1))
  refine mz_go FLX8 KLX8 C [(0, .aload_n 0), (1, .getfield 20), (4, .iload_n 1), (5, .iconst (-1))] (by decide +kernel) (pc' := 6) (L' := [(0, .ref 40), (1, .int k)]) (st' := [.int (-1), .int k, .ref 43]) rfl ?_
  refine mz_callV (As := [.int k, .int (-1)]) (rest := []) C E' (f_Row_add l D cA ρ hI (r := 43) (a := 44) (n := 12) rfl rfl (by decide) M k (-1)) hy_X6_add wl_X8_67 rfl rfl rfl ⟨Nat.le_of_ble_eq_true rfl, Nat.le_of_ble_eq_true rfl⟩ ⟨Nat.le_refl _, Nat.le_refl _⟩ (Nat.le_of_ble_eq_true rfl) (by decide +kernel) ?_ rfl
  refine mz_go FLX8 KLX8 C [(9, .aload_n 0), (10, .getfield 20), (13, .iload_n 1)] (by decide +kernel) (pc' := 14) (L' := [(0, .ref 40), (1, .int k)]) (st' := [.int k, .ref 43]) rfl ?_
  refine mz_callV (As := [.int k]) (rest := []) C E' (f_Row_get l D cA ρ hI (r := 43) (a := 44) (n := 12) rfl rfl (by decide) (mz_s M 44 (mz_ra 12 (M 44) k (-1))) k) hy_X6_get wl_X8_44 rfl rfl rfl ⟨Nat.le_of_ble_eq_true rfl, Nat.le_of_ble_eq_true rfl⟩ ⟨Nat.le_refl _, Nat.le_refl _⟩ (Nat.le_of_ble_eq_true rfl) (by decide +kernel) ?_ rfl
  refine mz_zgt (off := 21) (tgt := 38) C (by decide +kernel) (by decide) (fun h1 => ?_) (fun h1 => ?_)
  · exact mz_vret C E (by decide +kernel) (by unfold g_X8_goOn; rw [if_pos h1]; try rfl)
  · refine mz_go FLX8 KLX8 C [(20, .aload_n 0), (21, .getfield 14), (24, .iload_n 1), (25, .iconst 2)] (by decide +kernel) (pc' := 26) (L' := [(0, .ref 40), (1, .int k)]) (st' := [.int 2, .int k, .ref 41]) rfl ?_
    refine mz_callV (As := [.int k, .int 2]) (rest := []) C E' (f_Row_set l D cA ρ hI (r := 41) (a := 42) (n := 12) rfl rfl (by decide) (mz_s M 44 (mz_ra 12 (M 44) k (-1))) k 2) hy_X6_set wl_X8_63 rfl rfl rfl ⟨Nat.le_of_ble_eq_true rfl, Nat.le_of_ble_eq_true rfl⟩ ⟨Nat.le_refl _, Nat.le_refl _⟩ (Nat.le_of_ble_eq_true rfl) (by decide +kernel) ?_ rfl
    refine mz_go FLX8 KLX8 C [(29, .aload_n 0), (30, .getfield 26), (33, .iload_n 1), (34, .iconst 1)] (by decide +kernel) (pc' := 35) (L' := [(0, .ref 40), (1, .int k)]) (st' := [.int 1, .int k, .ref 47]) rfl ?_
    refine mz_callV (As := [.int k, .int 1]) (rest := []) C E' (f_Row_add l D cA ρ hI (r := 47) (a := 48) (n := 12) rfl rfl (by decide) (mz_s (mz_s M 44 (mz_ra 12 (M 44) k (-1))) 42 (mz_rs 12 ((mz_s M 44 (mz_ra 12 (M 44) k (-1))) 42) k 2)) k 1) hy_X6_add wl_X8_67 rfl rfl rfl ⟨Nat.le_of_ble_eq_true rfl, Nat.le_of_ble_eq_true rfl⟩ ⟨Nat.le_refl _, Nat.le_refl _⟩ (Nat.le_of_ble_eq_true rfl) (by decide +kernel) ?_ rfl
    exact mz_vret C E (by decide +kernel) (by unfold g_X8_goOn; rw [if_neg h1]; try rfl)
def g_X8_busyTracks_1 (M : mz_Mem) (i2 : Int32) (a3 : Int32) : Int32 := if (mz_rg 12 (M 42) i2) = 1 then a3 ||| (mz_rg 12 (M 27) i2) else a3
def g_X8_busyTracks (M : mz_Mem) : Int32 := (mz_fr (M 15 2) (g_X8_busyTracks_1 M) 0)
set_option maxHeartbeats 4000000 in
theorem f_X8_busyTracks (l : Launch) (D : va_G) (cA : ClassId) (ρ : Nat → Nat) (hI : mz_I ρ mz_lay1) (M : mz_Mem) : mz_M l D vwCl cA ρ mz_lay1 yX8_busyTracks cX8_busyTracks 3 (some .int) 1 21 [.ref 40] M (some (.int (g_X8_busyTracks M))) M := by
  refine mz_in0 (by decide +kernel) (Nat.le_of_ble_eq_true rfl) (fun Γ C E => ?_)
  have E' := (⟨_, _, _, E⟩ : ∃ Qc mc ms, mz_E Γ Qc mc ms (mz_A ρ mz_lay1))
  refine mz_go FLX8 KLX8 C [(0, .iconst 0), (1, .istore_n 1), (2, .iconst 0), (3, .istore_n 2)] (by decide +kernel) (pc' := 4) (L' := [(2, .int 0), (1, .int 0), (0, .ref 40)]) (st' := []) rfl ?_
  refine mz_sub (L' := [(0, .ref 40), (1, .int 0), (2, .int 0)]) (by simp) ?_
  refine mz_loop (M 15 2) (g_X8_busyTracks_1 M) (fun (i : Int32) (a : Int32) => mz_W Γ ρ 3 0 0 (mz_H D vwCl cA ρ mz_lay1 M) 4 [(0, .ref 40), (1, .int a), (2, .int i)] []) 0 (fun i2 a3 hi4 hx5 hb6 => ?_)
  refine mz_go FLX8 KLX8 C [(4, .iload_n 2), (5, .aload_n 0), (6, .getfield 32), (9, .getfield 48)] (by decide +kernel) (pc' := 12) (L' := [(0, .ref 40), (1, .int a3), (2, .int i2)]) (st' := [.int (M 15 2), .int i2]) rfl ?_
  refine mz_ige (off := 35) (tgt := 47) C (by decide +kernel) (by decide) (fun h1 => ?_) (fun h1 => ?_)
  · have e10 := hx5 h1
    subst e10
    refine mz_sub (L' := [(0, .ref 40), (1, .int (mz_fr (M 15 2) (g_X8_busyTracks_1 M) 0))]) (by simp) ?_
    refine mz_go FLX8 KLX8 C [(47, .iload_n 1)] (by decide +kernel) (pc' := 48) (L' := [(0, .ref 40), (1, .int (mz_fr (M 15 2) (g_X8_busyTracks_1 M) 0))]) (st' := [.int (mz_fr (M 15 2) (g_X8_busyTracks_1 M) 0)]) rfl ?_
    exact mz_iret C E (by decide +kernel) (rfl) (rfl)
  · refine mz_go FLX8 KLX8 C [(15, .aload_n 0), (16, .getfield 14), (19, .iload_n 2)] (by decide +kernel) (pc' := 20) (L' := [(0, .ref 40), (1, .int a3), (2, .int i2)]) (st' := [.int i2, .ref 41]) rfl ?_
    refine mz_callV (As := [.int i2]) (rest := []) C E' (f_Row_get l D cA ρ hI (r := 41) (a := 42) (n := 12) rfl rfl (by decide) M i2) hy_X6_get wl_X8_44 rfl rfl rfl ⟨Nat.le_of_ble_eq_true rfl, Nat.le_of_ble_eq_true rfl⟩ ⟨Nat.le_refl _, Nat.le_refl _⟩ (Nat.le_of_ble_eq_true rfl) (by decide +kernel) ?_ rfl
    refine mz_go FLX8 KLX8 C [(23, .iconst 1)] (by decide +kernel) (pc' := 24) (L' := [(0, .ref 40), (1, .int a3), (2, .int i2)]) (st' := [.int 1, .int (mz_rg 12 (M 42) i2)]) rfl ?_
    refine mz_ine (off := 17) (tgt := 41) C (by decide +kernel) (by decide) (fun h11 => ?_) (fun h11 => ?_)
    · refine mz_go FLX8 KLX8 C [(41, .iinc 2 1), (44, .goto (-40))] (by decide +kernel) (pc' := 4) (L' := [(2, .int (i2 + 1)), (0, .ref 40), (1, .int a3)]) (st' := []) rfl ?_
      have hb12 := hb6 h1
      rw [show g_X8_busyTracks_1 M i2 a3 = a3 from by unfold g_X8_busyTracks_1; rw [if_neg h11]] at hb12
      exact mz_sub (by simp) hb12
    · refine mz_go FLX8 KLX8 C [(27, .iload_n 1), (28, .aload_n 0), (29, .getfield 32), (32, .getfield 73), (35, .iload_n 2)] (by decide +kernel) (pc' := 36) (L' := [(0, .ref 40), (1, .int a3), (2, .int i2)]) (st' := [.int i2, .ref 26, .int a3]) rfl ?_
      refine mz_callV (As := [.int i2]) (rest := [.int a3]) C E' (f_Row_get l D cA ρ hI (r := 26) (a := 27) (n := 12) rfl rfl (by decide) M i2) hy_X6_get wl_X8_44 rfl rfl rfl ⟨Nat.le_of_ble_eq_true rfl, Nat.le_of_ble_eq_true rfl⟩ ⟨Nat.le_refl _, Nat.le_refl _⟩ (Nat.le_of_ble_eq_true rfl) (by decide +kernel) ?_ rfl
      refine mz_go FLX8 KLX8 C [(39, .ior), (40, .istore_n 1), (41, .iinc 2 1), (44, .goto (-40))] (by decide +kernel) (pc' := 4) (L' := [(2, .int (i2 + 1)), (1, .int (a3 ||| (mz_rg 12 (M 27) i2))), (0, .ref 40)]) (st' := []) rfl ?_
      have hb13 := hb6 h1
      rw [show g_X8_busyTracks_1 M i2 a3 = a3 ||| (mz_rg 12 (M 27) i2) from by unfold g_X8_busyTracks_1; rw [if_pos h11]] at hb13
      exact mz_sub (by simp) hb13
def g_X8_nextSceneOf_1 (M : mz_Mem) (s : Int32) (i2 : Int32) (a3 : Int32) : Int32 := if (mz_rg 12 (M 42) i2) = 0 then (if (g_X7_has M i2 s) = 0 then a3 else if a3 = (-1) then i2 else if (mz_rg 12 (M 23) a3) ≤ (mz_rg 12 (M 23) i2) then a3 else i2) else a3
def g_X8_nextSceneOf (M : mz_Mem) (s : Int32) : Int32 := (mz_fr (M 15 2) (g_X8_nextSceneOf_1 M s) (-1))
set_option maxHeartbeats 4000000 in
theorem f_X8_nextSceneOf (l : Launch) (D : va_G) (cA : ClassId) (ρ : Nat → Nat) (hI : mz_I ρ mz_lay1) (M : mz_Mem) (s : Int32) : mz_M l D vwCl cA ρ mz_lay1 yX8_nextSceneOf cX8_nextSceneOf 4 (some .int) 2 43 [.ref 40, .int s] M (some (.int (g_X8_nextSceneOf M s))) M := by
  refine mz_in0 (by decide +kernel) (Nat.le_of_ble_eq_true rfl) (fun Γ C E => ?_)
  have E' := (⟨_, _, _, E⟩ : ∃ Qc mc ms, mz_E Γ Qc mc ms (mz_A ρ mz_lay1))
  refine mz_go FLX8 KLX8 C [(0, .iconst (-1)), (1, .istore_n 2), (2, .iconst 0), (3, .istore_n 3)] (by decide +kernel) (pc' := 4) (L' := [(3, .int 0), (2, .int (-1)), (0, .ref 40), (1, .int s)]) (st' := []) rfl ?_
  refine mz_sub (L' := [(0, .ref 40), (1, .int s), (2, .int (-1)), (3, .int 0)]) (by simp) ?_
  refine mz_loop (M 15 2) (g_X8_nextSceneOf_1 M s) (fun (i : Int32) (a : Int32) => mz_W Γ ρ 4 0 0 (mz_H D vwCl cA ρ mz_lay1 M) 4 [(0, .ref 40), (1, .int s), (2, .int a), (3, .int i)] []) (-1) (fun i2 a3 hi4 hx5 hb6 => ?_)
  refine mz_go FLX8 KLX8 C [(4, .iload_n 3), (5, .aload_n 0), (6, .getfield 32), (9, .getfield 48)] (by decide +kernel) (pc' := 12) (L' := [(0, .ref 40), (1, .int s), (2, .int a3), (3, .int i2)]) (st' := [.int (M 15 2), .int i2]) rfl ?_
  refine mz_ige (off := 64) (tgt := 76) C (by decide +kernel) (by decide) (fun h1 => ?_) (fun h1 => ?_)
  · have e10 := hx5 h1
    subst e10
    refine mz_sub (L' := [(0, .ref 40), (1, .int s), (2, .int (mz_fr (M 15 2) (g_X8_nextSceneOf_1 M s) (-1)))]) (by simp) ?_
    refine mz_go FLX8 KLX8 C [(76, .iload_n 2)] (by decide +kernel) (pc' := 77) (L' := [(0, .ref 40), (1, .int s), (2, .int (mz_fr (M 15 2) (g_X8_nextSceneOf_1 M s) (-1)))]) (st' := [.int (mz_fr (M 15 2) (g_X8_nextSceneOf_1 M s) (-1))]) rfl ?_
    exact mz_iret C E (by decide +kernel) (rfl) (rfl)
  · refine mz_go FLX8 KLX8 C [(15, .aload_n 0), (16, .getfield 14), (19, .iload_n 3)] (by decide +kernel) (pc' := 20) (L' := [(0, .ref 40), (1, .int s), (2, .int a3), (3, .int i2)]) (st' := [.int i2, .ref 41]) rfl ?_
    refine mz_callV (As := [.int i2]) (rest := []) C E' (f_Row_get l D cA ρ hI (r := 41) (a := 42) (n := 12) rfl rfl (by decide) M i2) hy_X6_get wl_X8_44 rfl rfl rfl ⟨Nat.le_of_ble_eq_true rfl, Nat.le_of_ble_eq_true rfl⟩ ⟨Nat.le_refl _, Nat.le_refl _⟩ (Nat.le_of_ble_eq_true rfl) (by decide +kernel) ?_ rfl
    refine mz_zne (off := 47) (tgt := 70) C (by decide +kernel) (by decide) (fun h11 => ?_) (fun h11 => ?_)
    · refine mz_go FLX8 KLX8 C [(70, .iinc 3 1), (73, .goto (-69))] (by decide +kernel) (pc' := 4) (L' := [(3, .int (i2 + 1)), (0, .ref 40), (1, .int s), (2, .int a3)]) (st' := []) rfl ?_
      have hb12 := hb6 h1
      rw [show g_X8_nextSceneOf_1 M s i2 a3 = a3 from by unfold g_X8_nextSceneOf_1; rw [if_neg h11]] at hb12
      exact mz_sub (by simp) hb12
    · refine mz_go FLX8 KLX8 C [(26, .aload_n 0), (27, .getfield 32), (30, .iload_n 3), (31, .iload_n 1)] (by decide +kernel) (pc' := 32) (L' := [(0, .ref 40), (1, .int s), (2, .int a3), (3, .int i2)]) (st' := [.int s, .int i2, .ref 15]) rfl ?_
      refine mz_callV (As := [.int i2, .int s]) (rest := []) C E' (f_X7_has l D cA ρ hI M i2 s) hy_X7_has wl_X8_76 rfl rfl rfl ⟨Nat.le_of_ble_eq_true rfl, Nat.le_of_ble_eq_true rfl⟩ ⟨Nat.le_refl _, Nat.le_refl _⟩ (Nat.le_of_ble_eq_true rfl) (by decide +kernel) ?_ rfl
      refine mz_zeq (off := 35) (tgt := 70) C (by decide +kernel) (by decide) (fun h13 => ?_) (fun h13 => ?_)
      · refine mz_go FLX8 KLX8 C [(70, .iinc 3 1), (73, .goto (-69))] (by decide +kernel) (pc' := 4) (L' := [(3, .int (i2 + 1)), (0, .ref 40), (1, .int s), (2, .int a3)]) (st' := []) rfl ?_
        have hb14 := hb6 h1
        rw [show g_X8_nextSceneOf_1 M s i2 a3 = a3 from by unfold g_X8_nextSceneOf_1; rw [if_pos h11, if_pos h13]] at hb14
        exact mz_sub (by simp) hb14
      · refine mz_go FLX8 KLX8 C [(38, .iload_n 2), (39, .iconst (-1))] (by decide +kernel) (pc' := 40) (L' := [(0, .ref 40), (1, .int s), (2, .int a3), (3, .int i2)]) (st' := [.int (-1), .int a3]) rfl ?_
        refine mz_ieq (off := 28) (tgt := 68) C (by decide +kernel) (by decide) (fun h15 => ?_) (fun h15 => ?_)
        · refine mz_go FLX8 KLX8 C [(68, .iload_n 3), (69, .istore_n 2), (70, .iinc 3 1), (73, .goto (-69))] (by decide +kernel) (pc' := 4) (L' := [(3, .int (i2 + 1)), (2, .int i2), (0, .ref 40), (1, .int s)]) (st' := []) rfl ?_
          have hb16 := hb6 h1
          rw [show g_X8_nextSceneOf_1 M s i2 a3 = i2 from by unfold g_X8_nextSceneOf_1; rw [if_pos h11, if_neg h13, if_pos h15]] at hb16
          exact mz_sub (by simp) hb16
        · refine mz_go FLX8 KLX8 C [(43, .aload_n 0), (44, .getfield 32), (47, .getfield 80), (50, .iload_n 3)] (by decide +kernel) (pc' := 51) (L' := [(0, .ref 40), (1, .int s), (2, .int a3), (3, .int i2)]) (st' := [.int i2, .ref 22]) rfl ?_
          refine mz_callV (As := [.int i2]) (rest := []) C E' (f_Row_get l D cA ρ hI (r := 22) (a := 23) (n := 12) rfl rfl (by decide) M i2) hy_X6_get wl_X8_44 rfl rfl rfl ⟨Nat.le_of_ble_eq_true rfl, Nat.le_of_ble_eq_true rfl⟩ ⟨Nat.le_refl _, Nat.le_refl _⟩ (Nat.le_of_ble_eq_true rfl) (by decide +kernel) ?_ rfl
          refine mz_go FLX8 KLX8 C [(54, .aload_n 0), (55, .getfield 32), (58, .getfield 80), (61, .iload_n 2)] (by decide +kernel) (pc' := 62) (L' := [(0, .ref 40), (1, .int s), (2, .int a3), (3, .int i2)]) (st' := [.int a3, .ref 22, .int (mz_rg 12 (M 23) i2)]) rfl ?_
          refine mz_callV (As := [.int a3]) (rest := [.int (mz_rg 12 (M 23) i2)]) C E' (f_Row_get l D cA ρ hI (r := 22) (a := 23) (n := 12) rfl rfl (by decide) M a3) hy_X6_get wl_X8_44 rfl rfl rfl ⟨Nat.le_of_ble_eq_true rfl, Nat.le_of_ble_eq_true rfl⟩ ⟨Nat.le_refl _, Nat.le_refl _⟩ (Nat.le_of_ble_eq_true rfl) (by decide +kernel) ?_ rfl
          refine mz_ige (off := 5) (tgt := 70) C (by decide +kernel) (by decide) (fun h17 => ?_) (fun h17 => ?_)
          · refine mz_go FLX8 KLX8 C [(70, .iinc 3 1), (73, .goto (-69))] (by decide +kernel) (pc' := 4) (L' := [(3, .int (i2 + 1)), (0, .ref 40), (1, .int s), (2, .int a3)]) (st' := []) rfl ?_
            have hb18 := hb6 h1
            rw [show g_X8_nextSceneOf_1 M s i2 a3 = a3 from by unfold g_X8_nextSceneOf_1; rw [if_pos h11, if_neg h13, if_neg h15, if_pos h17]] at hb18
            exact mz_sub (by simp) hb18
          · refine mz_go FLX8 KLX8 C [(68, .iload_n 3), (69, .istore_n 2), (70, .iinc 3 1), (73, .goto (-69))] (by decide +kernel) (pc' := 4) (L' := [(3, .int (i2 + 1)), (2, .int i2), (0, .ref 40), (1, .int s)]) (st' := []) rfl ?_
            have hb19 := hb6 h1
            rw [show g_X8_nextSceneOf_1 M s i2 a3 = i2 from by unfold g_X8_nextSceneOf_1; rw [if_pos h11, if_neg h13, if_neg h15, if_neg h17]] at hb19
            exact mz_sub (by simp) hb19
def g_X8_runningWith_1 (M : mz_Mem) (t : Int32) (i6 : Int32) : Bool := if (mz_rg 12 (M 42) i6) = 1 then (if (g_X7_has M i6 (1 <<< (t &&& 31))) = 0 then false else true) else false
def g_X8_runningWith (M : mz_Mem) (t : Int32) : Int32 := (match mz_find (M 15 2) (g_X8_runningWith_1 M t) with | some i6 => i6 | none => (-1))
set_option maxHeartbeats 4000000 in
theorem f_X8_runningWith (l : Launch) (D : va_G) (cA : ClassId) (ρ : Nat → Nat) (hI : mz_I ρ mz_lay1) (M : mz_Mem) (t : Int32) : mz_M l D vwCl cA ρ mz_lay1 yX8_runningWith cX8_runningWith 3 (some .int) 2 43 [.ref 40, .int t] M (some (.int (g_X8_runningWith M t))) M := by
  refine mz_in0 (by decide +kernel) (Nat.le_of_ble_eq_true rfl) (fun Γ C E => ?_)
  have E' := (⟨_, _, _, E⟩ : ∃ Qc mc ms, mz_E Γ Qc mc ms (mz_A ρ mz_lay1))
  refine mz_go FLX8 KLX8 C [(0, .iconst 0), (1, .istore_n 2)] (by decide +kernel) (pc' := 2) (L' := [(2, .int 0), (0, .ref 40), (1, .int t)]) (st' := []) rfl ?_
  refine mz_sub (L' := [(0, .ref 40), (1, .int t), (2, .int 0)]) (by simp) ?_
  refine mz_loopf (M 15 2) (g_X8_runningWith_1 M t) (fun i => mz_W Γ ρ 3 0 0 (mz_H D vwCl cA ρ mz_lay1 M) 2 [(0, .ref 40), (1, .int t), (2, .int i)] []) (fun i6 hi5 hx3 hp4 ih2 => ?_)
  refine mz_go FLX8 KLX8 C [(2, .iload_n 2), (3, .aload_n 0), (4, .getfield 32), (7, .getfield 48)] (by decide +kernel) (pc' := 10) (L' := [(0, .ref 40), (1, .int t), (2, .int i6)]) (st' := [.int (M 15 2), .int i6]) rfl ?_
  refine mz_ige (off := 37) (tgt := 47) C (by decide +kernel) (by decide) (fun h1 => ?_) (fun h1 => ?_)
  · have hf7 := hx3 h1
    refine mz_sub (L' := [(0, .ref 40), (1, .int t)]) (by simp) ?_
    refine mz_go FLX8 KLX8 C [(47, .iconst (-1))] (by decide +kernel) (pc' := 48) (L' := [(0, .ref 40), (1, .int t)]) (st' := [.int (-1)]) rfl ?_
    exact mz_iret C E (by decide +kernel) (by unfold g_X8_runningWith; rw [hf7]; try rfl) (rfl)
  · refine mz_go FLX8 KLX8 C [(13, .aload_n 0), (14, .getfield 14), (17, .iload_n 2)] (by decide +kernel) (pc' := 18) (L' := [(0, .ref 40), (1, .int t), (2, .int i6)]) (st' := [.int i6, .ref 41]) rfl ?_
    refine mz_callV (As := [.int i6]) (rest := []) C E' (f_Row_get l D cA ρ hI (r := 41) (a := 42) (n := 12) rfl rfl (by decide) M i6) hy_X6_get wl_X8_44 rfl rfl rfl ⟨Nat.le_of_ble_eq_true rfl, Nat.le_of_ble_eq_true rfl⟩ ⟨Nat.le_refl _, Nat.le_refl _⟩ (Nat.le_of_ble_eq_true rfl) (by decide +kernel) ?_ rfl
    refine mz_go FLX8 KLX8 C [(21, .iconst 1)] (by decide +kernel) (pc' := 22) (L' := [(0, .ref 40), (1, .int t), (2, .int i6)]) (st' := [.int 1, .int (mz_rg 12 (M 42) i6)]) rfl ?_
    refine mz_ine (off := 19) (tgt := 41) C (by decide +kernel) (by decide) (fun h8 => ?_) (fun h8 => ?_)
    · refine mz_go FLX8 KLX8 C [(41, .iinc 2 1), (44, .goto (-42))] (by decide +kernel) (pc' := 2) (L' := [(2, .int (i6 + 1)), (0, .ref 40), (1, .int t)]) (st' := []) rfl ?_
      exact mz_sub (by simp) (ih2 h1 (by unfold g_X8_runningWith_1; rw [if_neg h8]))
    · refine mz_go FLX8 KLX8 C [(25, .aload_n 0), (26, .getfield 32), (29, .iload_n 2), (30, .iconst 1), (31, .iload_n 1), (32, .ishl)] (by decide +kernel) (pc' := 33) (L' := [(0, .ref 40), (1, .int t), (2, .int i6)]) (st' := [.int (1 <<< (t &&& 31)), .int i6, .ref 15]) rfl ?_
      refine mz_callV (As := [.int i6, .int (1 <<< (t &&& 31))]) (rest := []) C E' (f_X7_has l D cA ρ hI M i6 (1 <<< (t &&& 31))) hy_X7_has wl_X8_76 rfl rfl rfl ⟨Nat.le_of_ble_eq_true rfl, Nat.le_of_ble_eq_true rfl⟩ ⟨Nat.le_refl _, Nat.le_refl _⟩ (Nat.le_of_ble_eq_true rfl) (by decide +kernel) ?_ rfl
      refine mz_zeq (off := 5) (tgt := 41) C (by decide +kernel) (by decide) (fun h9 => ?_) (fun h9 => ?_)
      · refine mz_go FLX8 KLX8 C [(41, .iinc 2 1), (44, .goto (-42))] (by decide +kernel) (pc' := 2) (L' := [(2, .int (i6 + 1)), (0, .ref 40), (1, .int t)]) (st' := []) rfl ?_
        exact mz_sub (by simp) (ih2 h1 (by unfold g_X8_runningWith_1; rw [if_pos h8, if_pos h9]))
      · refine mz_go FLX8 KLX8 C [(39, .iload_n 2)] (by decide +kernel) (pc' := 40) (L' := [(0, .ref 40), (1, .int t), (2, .int i6)]) (st' := [.int i6]) rfl ?_
        have hf10 := hp4 h1 (by unfold g_X8_runningWith_1; rw [if_pos h8, if_neg h9])
        exact mz_iret C E (by decide +kernel) (by unfold g_X8_runningWith; rw [hf10]; try rfl) (rfl)
def g_X8_runningIn_1 (M : mz_Mem) (r : Int32) (i2 : Int32) (a3 : Int32) : Int32 := if (mz_rg 12 (M 42) i2) = 1 then (if (mz_rg 12 (M 21) i2) = r then a3 ||| (1 <<< (i2 &&& 31)) else a3) else a3
def g_X8_runningIn (M : mz_Mem) (r : Int32) : Int32 := (mz_fr (M 15 2) (g_X8_runningIn_1 M r) 0)
set_option maxHeartbeats 4000000 in
theorem f_X8_runningIn (l : Launch) (D : va_G) (cA : ClassId) (ρ : Nat → Nat) (hI : mz_I ρ mz_lay1) (M : mz_Mem) (r : Int32) : mz_M l D vwCl cA ρ mz_lay1 yX8_runningIn cX8_runningIn 4 (some .int) 1 21 [.ref 40, .int r] M (some (.int (g_X8_runningIn M r))) M := by
  refine mz_in0 (by decide +kernel) (Nat.le_of_ble_eq_true rfl) (fun Γ C E => ?_)
  have E' := (⟨_, _, _, E⟩ : ∃ Qc mc ms, mz_E Γ Qc mc ms (mz_A ρ mz_lay1))
  refine mz_go FLX8 KLX8 C [(0, .iconst 0), (1, .istore_n 2), (2, .iconst 0), (3, .istore_n 3)] (by decide +kernel) (pc' := 4) (L' := [(3, .int 0), (2, .int 0), (0, .ref 40), (1, .int r)]) (st' := []) rfl ?_
  refine mz_sub (L' := [(0, .ref 40), (1, .int r), (2, .int 0), (3, .int 0)]) (by simp) ?_
  refine mz_loop (M 15 2) (g_X8_runningIn_1 M r) (fun (i : Int32) (a : Int32) => mz_W Γ ρ 4 0 0 (mz_H D vwCl cA ρ mz_lay1 M) 4 [(0, .ref 40), (1, .int r), (2, .int a), (3, .int i)] []) 0 (fun i2 a3 hi4 hx5 hb6 => ?_)
  refine mz_go FLX8 KLX8 C [(4, .iload_n 3), (5, .aload_n 0), (6, .getfield 32), (9, .getfield 48)] (by decide +kernel) (pc' := 12) (L' := [(0, .ref 40), (1, .int r), (2, .int a3), (3, .int i2)]) (st' := [.int (M 15 2), .int i2]) rfl ?_
  refine mz_ige (off := 42) (tgt := 54) C (by decide +kernel) (by decide) (fun h1 => ?_) (fun h1 => ?_)
  · have e10 := hx5 h1
    subst e10
    refine mz_sub (L' := [(0, .ref 40), (1, .int r), (2, .int (mz_fr (M 15 2) (g_X8_runningIn_1 M r) 0))]) (by simp) ?_
    refine mz_go FLX8 KLX8 C [(54, .iload_n 2)] (by decide +kernel) (pc' := 55) (L' := [(0, .ref 40), (1, .int r), (2, .int (mz_fr (M 15 2) (g_X8_runningIn_1 M r) 0))]) (st' := [.int (mz_fr (M 15 2) (g_X8_runningIn_1 M r) 0)]) rfl ?_
    exact mz_iret C E (by decide +kernel) (rfl) (rfl)
  · refine mz_go FLX8 KLX8 C [(15, .aload_n 0), (16, .getfield 14), (19, .iload_n 3)] (by decide +kernel) (pc' := 20) (L' := [(0, .ref 40), (1, .int r), (2, .int a3), (3, .int i2)]) (st' := [.int i2, .ref 41]) rfl ?_
    refine mz_callV (As := [.int i2]) (rest := []) C E' (f_Row_get l D cA ρ hI (r := 41) (a := 42) (n := 12) rfl rfl (by decide) M i2) hy_X6_get wl_X8_44 rfl rfl rfl ⟨Nat.le_of_ble_eq_true rfl, Nat.le_of_ble_eq_true rfl⟩ ⟨Nat.le_refl _, Nat.le_refl _⟩ (Nat.le_of_ble_eq_true rfl) (by decide +kernel) ?_ rfl
    refine mz_go FLX8 KLX8 C [(23, .iconst 1)] (by decide +kernel) (pc' := 24) (L' := [(0, .ref 40), (1, .int r), (2, .int a3), (3, .int i2)]) (st' := [.int 1, .int (mz_rg 12 (M 42) i2)]) rfl ?_
    refine mz_ine (off := 24) (tgt := 48) C (by decide +kernel) (by decide) (fun h11 => ?_) (fun h11 => ?_)
    · refine mz_go FLX8 KLX8 C [(48, .iinc 3 1), (51, .goto (-47))] (by decide +kernel) (pc' := 4) (L' := [(3, .int (i2 + 1)), (0, .ref 40), (1, .int r), (2, .int a3)]) (st' := []) rfl ?_
      have hb12 := hb6 h1
      rw [show g_X8_runningIn_1 M r i2 a3 = a3 from by unfold g_X8_runningIn_1; rw [if_neg h11]] at hb12
      exact mz_sub (by simp) hb12
    · refine mz_go FLX8 KLX8 C [(27, .aload_n 0), (28, .getfield 32), (31, .getfield 83), (34, .iload_n 3)] (by decide +kernel) (pc' := 35) (L' := [(0, .ref 40), (1, .int r), (2, .int a3), (3, .int i2)]) (st' := [.int i2, .ref 20]) rfl ?_
      refine mz_callV (As := [.int i2]) (rest := []) C E' (f_Row_get l D cA ρ hI (r := 20) (a := 21) (n := 12) rfl rfl (by decide) M i2) hy_X6_get wl_X8_44 rfl rfl rfl ⟨Nat.le_of_ble_eq_true rfl, Nat.le_of_ble_eq_true rfl⟩ ⟨Nat.le_refl _, Nat.le_refl _⟩ (Nat.le_of_ble_eq_true rfl) (by decide +kernel) ?_ rfl
      refine mz_go FLX8 KLX8 C [(38, .iload_n 1)] (by decide +kernel) (pc' := 39) (L' := [(0, .ref 40), (1, .int r), (2, .int a3), (3, .int i2)]) (st' := [.int r, .int (mz_rg 12 (M 21) i2)]) rfl ?_
      refine mz_ine (off := 9) (tgt := 48) C (by decide +kernel) (by decide) (fun h13 => ?_) (fun h13 => ?_)
      · refine mz_go FLX8 KLX8 C [(48, .iinc 3 1), (51, .goto (-47))] (by decide +kernel) (pc' := 4) (L' := [(3, .int (i2 + 1)), (0, .ref 40), (1, .int r), (2, .int a3)]) (st' := []) rfl ?_
        have hb14 := hb6 h1
        rw [show g_X8_runningIn_1 M r i2 a3 = a3 from by unfold g_X8_runningIn_1; rw [if_pos h11, if_neg h13]] at hb14
        exact mz_sub (by simp) hb14
      · refine mz_go FLX8 KLX8 C [(42, .iload_n 2), (43, .iconst 1), (44, .iload_n 3), (45, .ishl), (46, .ior), (47, .istore_n 2), (48, .iinc 3 1), (51, .goto (-47))] (by decide +kernel) (pc' := 4) (L' := [(3, .int (i2 + 1)), (2, .int (a3 ||| (1 <<< (i2 &&& 31)))), (0, .ref 40), (1, .int r)]) (st' := []) rfl ?_
        have hb15 := hb6 h1
        rw [show g_X8_runningIn_1 M r i2 a3 = a3 ||| (1 <<< (i2 &&& 31)) from by unfold g_X8_runningIn_1; rw [if_pos h11, if_pos h13]] at hb15
        exact mz_sub (by simp) hb15
def g_X8_countRunning_1 (M : mz_Mem) (i2 : Int32) (a3 : Int32) : Int32 := if (mz_rg 12 (M 42) i2) = 1 then a3 + 1 else a3
def g_X8_countRunning (M : mz_Mem) : Int32 := (mz_fr (M 15 2) (g_X8_countRunning_1 M) 0)
set_option maxHeartbeats 4000000 in
theorem f_X8_countRunning (l : Launch) (D : va_G) (cA : ClassId) (ρ : Nat → Nat) (hI : mz_I ρ mz_lay1) (M : mz_Mem) : mz_M l D vwCl cA ρ mz_lay1 yX8_countRunning cX8_countRunning 3 (some .int) 1 21 [.ref 40] M (some (.int (g_X8_countRunning M))) M := by
  refine mz_in0 (by decide +kernel) (Nat.le_of_ble_eq_true rfl) (fun Γ C E => ?_)
  have E' := (⟨_, _, _, E⟩ : ∃ Qc mc ms, mz_E Γ Qc mc ms (mz_A ρ mz_lay1))
  refine mz_go FLX8 KLX8 C [(0, .iconst 0), (1, .istore_n 1), (2, .iconst 0), (3, .istore_n 2)] (by decide +kernel) (pc' := 4) (L' := [(2, .int 0), (1, .int 0), (0, .ref 40)]) (st' := []) rfl ?_
  refine mz_sub (L' := [(0, .ref 40), (1, .int 0), (2, .int 0)]) (by simp) ?_
  refine mz_loop (M 15 2) (g_X8_countRunning_1 M) (fun (i : Int32) (a : Int32) => mz_W Γ ρ 3 0 0 (mz_H D vwCl cA ρ mz_lay1 M) 4 [(0, .ref 40), (1, .int a), (2, .int i)] []) 0 (fun i2 a3 hi4 hx5 hb6 => ?_)
  refine mz_go FLX8 KLX8 C [(4, .iload_n 2), (5, .aload_n 0), (6, .getfield 32), (9, .getfield 48)] (by decide +kernel) (pc' := 12) (L' := [(0, .ref 40), (1, .int a3), (2, .int i2)]) (st' := [.int (M 15 2), .int i2]) rfl ?_
  refine mz_ige (off := 24) (tgt := 36) C (by decide +kernel) (by decide) (fun h1 => ?_) (fun h1 => ?_)
  · have e10 := hx5 h1
    subst e10
    refine mz_sub (L' := [(0, .ref 40), (1, .int (mz_fr (M 15 2) (g_X8_countRunning_1 M) 0))]) (by simp) ?_
    refine mz_go FLX8 KLX8 C [(36, .iload_n 1)] (by decide +kernel) (pc' := 37) (L' := [(0, .ref 40), (1, .int (mz_fr (M 15 2) (g_X8_countRunning_1 M) 0))]) (st' := [.int (mz_fr (M 15 2) (g_X8_countRunning_1 M) 0)]) rfl ?_
    exact mz_iret C E (by decide +kernel) (rfl) (rfl)
  · refine mz_go FLX8 KLX8 C [(15, .aload_n 0), (16, .getfield 14), (19, .iload_n 2)] (by decide +kernel) (pc' := 20) (L' := [(0, .ref 40), (1, .int a3), (2, .int i2)]) (st' := [.int i2, .ref 41]) rfl ?_
    refine mz_callV (As := [.int i2]) (rest := []) C E' (f_Row_get l D cA ρ hI (r := 41) (a := 42) (n := 12) rfl rfl (by decide) M i2) hy_X6_get wl_X8_44 rfl rfl rfl ⟨Nat.le_of_ble_eq_true rfl, Nat.le_of_ble_eq_true rfl⟩ ⟨Nat.le_refl _, Nat.le_refl _⟩ (Nat.le_of_ble_eq_true rfl) (by decide +kernel) ?_ rfl
    refine mz_go FLX8 KLX8 C [(23, .iconst 1)] (by decide +kernel) (pc' := 24) (L' := [(0, .ref 40), (1, .int a3), (2, .int i2)]) (st' := [.int 1, .int (mz_rg 12 (M 42) i2)]) rfl ?_
    refine mz_ine (off := 6) (tgt := 30) C (by decide +kernel) (by decide) (fun h11 => ?_) (fun h11 => ?_)
    · refine mz_go FLX8 KLX8 C [(30, .iinc 2 1), (33, .goto (-29))] (by decide +kernel) (pc' := 4) (L' := [(2, .int (i2 + 1)), (0, .ref 40), (1, .int a3)]) (st' := []) rfl ?_
      have hb12 := hb6 h1
      rw [show g_X8_countRunning_1 M i2 a3 = a3 from by unfold g_X8_countRunning_1; rw [if_neg h11]] at hb12
      exact mz_sub (by simp) hb12
    · refine mz_go FLX8 KLX8 C [(27, .iinc 1 1), (30, .iinc 2 1), (33, .goto (-29))] (by decide +kernel) (pc' := 4) (L' := [(2, .int (i2 + 1)), (1, .int (a3 + 1)), (0, .ref 40)]) (st' := []) rfl ?_
      have hb13 := hb6 h1
      rw [show g_X8_countRunning_1 M i2 a3 = a3 + 1 from by unfold g_X8_countRunning_1; rw [if_pos h11]] at hb13
      exact mz_sub (by simp) hb13
end
section
def mz_us (x y : Int32) : Int32 := (x.toUInt32 >>> (y.toUInt32 &&& Int32.toUInt32 31)).toInt32
theorem mz_iushr {Γ : mz_G} {l : Launch} {own : String} {cc : ByteArray} {nL k n : Nat} {ret : Option FieldType} {D : va_G} {cl : List vw_C} {tys : List (ClassId × FieldType)} {rm : Room} {ρ : Nat → Nat} {P : Heap → Prop} {pc : Nat} {L : List (Nat × Value)} {st : List Value} {x y : Int32} (C : mz_C Γ l own cc nL ret D cl tys rm) (hd : decode cc pc = .ok (.iushr, 1)) (kk : mz_W Γ ρ nL k n P (pc + 1) L (.int (mz_us x y) :: st)) : mz_W Γ ρ nL k n P pc L (.int y :: .int x :: st) := by
  obtain ⟨p, l', e, R, s, m, args, below, meth, c, H0, A, Q⟩ := Γ
  obtain ⟨-, hx, hb, -⟩ := C
  exact fun H ls locs hP hS hl => lv_iushr hx hb hd rfl (kk H ls locs hP hS hl)
theorem mz_ldcw {Γ : mz_G} {l : Launch} {own : String} {cc : ByteArray} {nL k n : Nat} {ret : Option FieldType} {D : va_G} {cl : List vw_C} {tys : List (ClassId × FieldType)} {rm : Room} {ρ : Nat → Nat} {P : Heap → Prop} {pc index : Nat} {L : List (Nat × Value)} {st : List Value} {v : Int32} (C : mz_C Γ l own cc nL ret D cl tys rm) (hw : Cond.constant own index v ∈ mz_ws) (hd : decode cc pc = .ok (.ldc_w index, 3)) (kk : mz_W Γ ρ nL k n P (pc + 3) L (.int v :: st)) : mz_W Γ ρ nL k n P pc L st := by
  obtain ⟨p, l', e, R, s, m, args, below, meth, c, H0, A, Q⟩ := Γ
  obtain ⟨-, hx, hb, -, hown, hts, -⟩ := C
  exact fun H ls locs hP hS hl => lv_ldcw hx hb hown (hts _ hw) hd (kk H ls locs hP hS hl)
def flJ6 : List (Nat × Nat × Nat) := []
def klJ6 : List (Nat × Int64) := []
theorem FLJ6 : mz_FL RJ6 vwCl flJ6 := fun _ _ _ h => by cases h
theorem KLJ6 : mz_KL RJ6 klJ6 := fun _ _ h => by cases h
def mz_bitc (x : Int32) : Int32 := ((((((((x - ((mz_us x 1) &&& 1431655765)) &&& 858993459) + ((mz_us (x - ((mz_us x 1) &&& 1431655765)) 2) &&& 858993459)) + (mz_us (((x - ((mz_us x 1) &&& 1431655765)) &&& 858993459) + ((mz_us (x - ((mz_us x 1) &&& 1431655765)) 2) &&& 858993459)) 4)) &&& 252645135) + (mz_us (((((x - ((mz_us x 1) &&& 1431655765)) &&& 858993459) + ((mz_us (x - ((mz_us x 1) &&& 1431655765)) 2) &&& 858993459)) + (mz_us (((x - ((mz_us x 1) &&& 1431655765)) &&& 858993459) + ((mz_us (x - ((mz_us x 1) &&& 1431655765)) 2) &&& 858993459)) 4)) &&& 252645135) 8)) + (mz_us ((((((x - ((mz_us x 1) &&& 1431655765)) &&& 858993459) + ((mz_us (x - ((mz_us x 1) &&& 1431655765)) 2) &&& 858993459)) + (mz_us (((x - ((mz_us x 1) &&& 1431655765)) &&& 858993459) + ((mz_us (x - ((mz_us x 1) &&& 1431655765)) 2) &&& 858993459)) 4)) &&& 252645135) + (mz_us (((((x - ((mz_us x 1) &&& 1431655765)) &&& 858993459) + ((mz_us (x - ((mz_us x 1) &&& 1431655765)) 2) &&& 858993459)) + (mz_us (((x - ((mz_us x 1) &&& 1431655765)) &&& 858993459) + ((mz_us (x - ((mz_us x 1) &&& 1431655765)) 2) &&& 858993459)) 4)) &&& 252645135) 8)) 16)) &&& 63)
set_option maxHeartbeats 4000000 in
theorem f_J6_bitCount_0f7a4 (l : Launch) (D : va_G) (cA : ClassId) (ρ : Nat → Nat) {lay : List (Option mz_Sh)} (hI : mz_I ρ lay) (M : mz_Mem) (x : Int32) : mz_M l D vwCl cA ρ lay yJ6_bitCount_0f7a4 cJ6_bitCount_0f7a4 1 (some .int) 0 0 [.int x] M (some (.int (mz_bitc x))) M := by
  refine mz_in0 (by decide +kernel) (Nat.le_of_ble_eq_true rfl) (fun Γ C E => ?_)
  have E' := (⟨_, _, _, E⟩ : ∃ Qc mc ms, mz_E Γ Qc mc ms (mz_A ρ lay))
  refine mz_go FLJ6 KLJ6 C [(0, .iload_n 0), (1, .iload_n 0), (2, .iconst 1)] (by decide +kernel) (pc' := 3) (L' := [(0, .int x)]) (st' := [.int 1, .int x, .int x]) rfl ?_
  refine mz_iushr C (by decide +kernel) ?_
  refine mz_ldcw (index := 265) (v := 1431655765) C (mz_in 446 (by decide +kernel) (by decide +kernel)) (by decide +kernel) ?_
  refine mz_go FLJ6 KLJ6 C [(7, .iand), (8, .isub), (9, .istore_n 0), (10, .iload_n 0)] (by decide +kernel) (pc' := 11) (L' := [(0, .int (x - ((mz_us x 1) &&& 1431655765)))]) (st' := [.int (x - ((mz_us x 1) &&& 1431655765))]) rfl ?_
  refine mz_ldcw (index := 266) (v := 858993459) C (mz_in 447 (by decide +kernel) (by decide +kernel)) (by decide +kernel) ?_
  refine mz_go FLJ6 KLJ6 C [(14, .iand), (15, .iload_n 0), (16, .iconst 2)] (by decide +kernel) (pc' := 17) (L' := [(0, .int (x - ((mz_us x 1) &&& 1431655765)))]) (st' := [.int 2, .int (x - ((mz_us x 1) &&& 1431655765)), .int ((x - ((mz_us x 1) &&& 1431655765)) &&& 858993459)]) rfl ?_
  refine mz_iushr C (by decide +kernel) ?_
  refine mz_ldcw (index := 266) (v := 858993459) C (mz_in 447 (by decide +kernel) (by decide +kernel)) (by decide +kernel) ?_
  refine mz_go FLJ6 KLJ6 C [(21, .iand), (22, .iadd), (23, .istore_n 0), (24, .iload_n 0), (25, .iload_n 0), (26, .iconst 4)] (by decide +kernel) (pc' := 27) (L' := [(0, .int (((x - ((mz_us x 1) &&& 1431655765)) &&& 858993459) + ((mz_us (x - ((mz_us x 1) &&& 1431655765)) 2) &&& 858993459)))]) (st' := [.int 4, .int (((x - ((mz_us x 1) &&& 1431655765)) &&& 858993459) + ((mz_us (x - ((mz_us x 1) &&& 1431655765)) 2) &&& 858993459)), .int (((x - ((mz_us x 1) &&& 1431655765)) &&& 858993459) + ((mz_us (x - ((mz_us x 1) &&& 1431655765)) 2) &&& 858993459))]) rfl ?_
  refine mz_iushr C (by decide +kernel) ?_
  refine mz_go FLJ6 KLJ6 C [(28, .iadd)] (by decide +kernel) (pc' := 29) (L' := [(0, .int (((x - ((mz_us x 1) &&& 1431655765)) &&& 858993459) + ((mz_us (x - ((mz_us x 1) &&& 1431655765)) 2) &&& 858993459)))]) (st' := [.int ((((x - ((mz_us x 1) &&& 1431655765)) &&& 858993459) + ((mz_us (x - ((mz_us x 1) &&& 1431655765)) 2) &&& 858993459)) + (mz_us (((x - ((mz_us x 1) &&& 1431655765)) &&& 858993459) + ((mz_us (x - ((mz_us x 1) &&& 1431655765)) 2) &&& 858993459)) 4))]) rfl ?_
  refine mz_ldcw (index := 267) (v := 252645135) C (mz_in 448 (by decide +kernel) (by decide +kernel)) (by decide +kernel) ?_
  refine mz_go FLJ6 KLJ6 C [(32, .iand), (33, .istore_n 0), (34, .iload_n 0), (35, .iload_n 0), (36, .bipush 8)] (by decide +kernel) (pc' := 38) (L' := [(0, .int (((((x - ((mz_us x 1) &&& 1431655765)) &&& 858993459) + ((mz_us (x - ((mz_us x 1) &&& 1431655765)) 2) &&& 858993459)) + (mz_us (((x - ((mz_us x 1) &&& 1431655765)) &&& 858993459) + ((mz_us (x - ((mz_us x 1) &&& 1431655765)) 2) &&& 858993459)) 4)) &&& 252645135))]) (st' := [.int 8, .int (((((x - ((mz_us x 1) &&& 1431655765)) &&& 858993459) + ((mz_us (x - ((mz_us x 1) &&& 1431655765)) 2) &&& 858993459)) + (mz_us (((x - ((mz_us x 1) &&& 1431655765)) &&& 858993459) + ((mz_us (x - ((mz_us x 1) &&& 1431655765)) 2) &&& 858993459)) 4)) &&& 252645135), .int (((((x - ((mz_us x 1) &&& 1431655765)) &&& 858993459) + ((mz_us (x - ((mz_us x 1) &&& 1431655765)) 2) &&& 858993459)) + (mz_us (((x - ((mz_us x 1) &&& 1431655765)) &&& 858993459) + ((mz_us (x - ((mz_us x 1) &&& 1431655765)) 2) &&& 858993459)) 4)) &&& 252645135)]) rfl ?_
  refine mz_iushr C (by decide +kernel) ?_
  refine mz_go FLJ6 KLJ6 C [(39, .iadd), (40, .istore_n 0), (41, .iload_n 0), (42, .iload_n 0), (43, .bipush 16)] (by decide +kernel) (pc' := 45) (L' := [(0, .int ((((((x - ((mz_us x 1) &&& 1431655765)) &&& 858993459) + ((mz_us (x - ((mz_us x 1) &&& 1431655765)) 2) &&& 858993459)) + (mz_us (((x - ((mz_us x 1) &&& 1431655765)) &&& 858993459) + ((mz_us (x - ((mz_us x 1) &&& 1431655765)) 2) &&& 858993459)) 4)) &&& 252645135) + (mz_us (((((x - ((mz_us x 1) &&& 1431655765)) &&& 858993459) + ((mz_us (x - ((mz_us x 1) &&& 1431655765)) 2) &&& 858993459)) + (mz_us (((x - ((mz_us x 1) &&& 1431655765)) &&& 858993459) + ((mz_us (x - ((mz_us x 1) &&& 1431655765)) 2) &&& 858993459)) 4)) &&& 252645135) 8)))]) (st' := [.int 16, .int ((((((x - ((mz_us x 1) &&& 1431655765)) &&& 858993459) + ((mz_us (x - ((mz_us x 1) &&& 1431655765)) 2) &&& 858993459)) + (mz_us (((x - ((mz_us x 1) &&& 1431655765)) &&& 858993459) + ((mz_us (x - ((mz_us x 1) &&& 1431655765)) 2) &&& 858993459)) 4)) &&& 252645135) + (mz_us (((((x - ((mz_us x 1) &&& 1431655765)) &&& 858993459) + ((mz_us (x - ((mz_us x 1) &&& 1431655765)) 2) &&& 858993459)) + (mz_us (((x - ((mz_us x 1) &&& 1431655765)) &&& 858993459) + ((mz_us (x - ((mz_us x 1) &&& 1431655765)) 2) &&& 858993459)) 4)) &&& 252645135) 8)), .int ((((((x - ((mz_us x 1) &&& 1431655765)) &&& 858993459) + ((mz_us (x - ((mz_us x 1) &&& 1431655765)) 2) &&& 858993459)) + (mz_us (((x - ((mz_us x 1) &&& 1431655765)) &&& 858993459) + ((mz_us (x - ((mz_us x 1) &&& 1431655765)) 2) &&& 858993459)) 4)) &&& 252645135) + (mz_us (((((x - ((mz_us x 1) &&& 1431655765)) &&& 858993459) + ((mz_us (x - ((mz_us x 1) &&& 1431655765)) 2) &&& 858993459)) + (mz_us (((x - ((mz_us x 1) &&& 1431655765)) &&& 858993459) + ((mz_us (x - ((mz_us x 1) &&& 1431655765)) 2) &&& 858993459)) 4)) &&& 252645135) 8))]) rfl ?_
  refine mz_iushr C (by decide +kernel) ?_
  refine mz_go FLJ6 KLJ6 C [(46, .iadd), (47, .istore_n 0), (48, .iload_n 0), (49, .bipush 63), (51, .iand)] (by decide +kernel) (pc' := 52) (L' := [(0, .int (((((((x - ((mz_us x 1) &&& 1431655765)) &&& 858993459) + ((mz_us (x - ((mz_us x 1) &&& 1431655765)) 2) &&& 858993459)) + (mz_us (((x - ((mz_us x 1) &&& 1431655765)) &&& 858993459) + ((mz_us (x - ((mz_us x 1) &&& 1431655765)) 2) &&& 858993459)) 4)) &&& 252645135) + (mz_us (((((x - ((mz_us x 1) &&& 1431655765)) &&& 858993459) + ((mz_us (x - ((mz_us x 1) &&& 1431655765)) 2) &&& 858993459)) + (mz_us (((x - ((mz_us x 1) &&& 1431655765)) &&& 858993459) + ((mz_us (x - ((mz_us x 1) &&& 1431655765)) 2) &&& 858993459)) 4)) &&& 252645135) 8)) + (mz_us ((((((x - ((mz_us x 1) &&& 1431655765)) &&& 858993459) + ((mz_us (x - ((mz_us x 1) &&& 1431655765)) 2) &&& 858993459)) + (mz_us (((x - ((mz_us x 1) &&& 1431655765)) &&& 858993459) + ((mz_us (x - ((mz_us x 1) &&& 1431655765)) 2) &&& 858993459)) 4)) &&& 252645135) + (mz_us (((((x - ((mz_us x 1) &&& 1431655765)) &&& 858993459) + ((mz_us (x - ((mz_us x 1) &&& 1431655765)) 2) &&& 858993459)) + (mz_us (((x - ((mz_us x 1) &&& 1431655765)) &&& 858993459) + ((mz_us (x - ((mz_us x 1) &&& 1431655765)) 2) &&& 858993459)) 4)) &&& 252645135) 8)) 16)))]) (st' := [.int ((((((((x - ((mz_us x 1) &&& 1431655765)) &&& 858993459) + ((mz_us (x - ((mz_us x 1) &&& 1431655765)) 2) &&& 858993459)) + (mz_us (((x - ((mz_us x 1) &&& 1431655765)) &&& 858993459) + ((mz_us (x - ((mz_us x 1) &&& 1431655765)) 2) &&& 858993459)) 4)) &&& 252645135) + (mz_us (((((x - ((mz_us x 1) &&& 1431655765)) &&& 858993459) + ((mz_us (x - ((mz_us x 1) &&& 1431655765)) 2) &&& 858993459)) + (mz_us (((x - ((mz_us x 1) &&& 1431655765)) &&& 858993459) + ((mz_us (x - ((mz_us x 1) &&& 1431655765)) 2) &&& 858993459)) 4)) &&& 252645135) 8)) + (mz_us ((((((x - ((mz_us x 1) &&& 1431655765)) &&& 858993459) + ((mz_us (x - ((mz_us x 1) &&& 1431655765)) 2) &&& 858993459)) + (mz_us (((x - ((mz_us x 1) &&& 1431655765)) &&& 858993459) + ((mz_us (x - ((mz_us x 1) &&& 1431655765)) 2) &&& 858993459)) 4)) &&& 252645135) + (mz_us (((((x - ((mz_us x 1) &&& 1431655765)) &&& 858993459) + ((mz_us (x - ((mz_us x 1) &&& 1431655765)) 2) &&& 858993459)) + (mz_us (((x - ((mz_us x 1) &&& 1431655765)) &&& 858993459) + ((mz_us (x - ((mz_us x 1) &&& 1431655765)) 2) &&& 858993459)) 4)) &&& 252645135) 8)) 16)) &&& 63)]) rfl ?_
  exact mz_iret C E (by decide +kernel) (rfl) (rfl)
end
section
def g_X0_changeHabit (M : mz_Mem) (g : Int32) (h : Int32) (t : Int32) : mz_Mem := if h = 1 then (mz_s (mz_s M 64 (mz_rs 12 (M 64) g h)) 66 (mz_rs 12 ((mz_s M 64 (mz_rs 12 (M 64) g h)) 66) g t)) else (mz_s (mz_s M 64 (mz_rs 12 (M 64) g h)) 66 (mz_rs 12 ((mz_s M 64 (mz_rs 12 (M 64) g h)) 66) g (-1)))
theorem g_X0_changeHabit_hs (M : mz_Mem) (g : Int32) (h : Int32) (t : Int32) : mz_hs M (g_X0_changeHabit M g h t) := by
  unfold g_X0_changeHabit
  by_cases h1 : h = 1
  · rw [if_pos h1]
    exact (mz_hs_s (by decide)).trans (mz_hs_s (by decide))
  · rw [if_neg h1]
    exact (mz_hs_s (by decide)).trans (mz_hs_s (by decide))

set_option maxHeartbeats 4000000 in
theorem f_X0_changeHabit (l : Launch) (D : va_G) (cA : ClassId) (ρ : Nat → Nat) (hI : mz_I ρ mz_lay1) (M : mz_Mem) (g : Int32) (h : Int32) (t : Int32) : mz_M l D vwCl cA ρ mz_lay1 yX0_changeHabit cX0_changeHabit 4 none 1 22 [.ref 60, .int g, .int h, .int t] M none (g_X0_changeHabit M g h t) := by
  refine mz_in0 (by decide +kernel) (Nat.le_of_ble_eq_true rfl) (fun Γ C E => ?_)
  have E' := (⟨_, _, _, E⟩ : ∃ Qc mc ms, mz_E Γ Qc mc ms (mz_A ρ mz_lay1))
  refine mz_go FLX0 KLX0 C [(0, .aload_n 0), (1, .getfield 20), (4, .iload_n 1), (5, .iload_n 2)] (by decide +kernel) (pc' := 6) (L' := [(0, .ref 60), (1, .int g), (2, .int h), (3, .int t)]) (st' := [.int h, .int g, .ref 63]) rfl ?_
  refine mz_callV (As := [.int g, .int h]) (rest := []) C E' (f_Row_set l D cA ρ hI (r := 63) (a := 64) (n := 12) rfl rfl (by decide) M g h) hy_X6_set wl_X0_58 rfl rfl rfl ⟨Nat.le_of_ble_eq_true rfl, Nat.le_of_ble_eq_true rfl⟩ ⟨Nat.le_refl _, Nat.le_refl _⟩ (Nat.le_of_ble_eq_true rfl) (by decide +kernel) ?_ rfl
  refine mz_go FLX0 KLX0 C [(9, .aload_n 0), (10, .getfield 23), (13, .iload_n 1), (14, .iload_n 2), (15, .iconst 1)] (by decide +kernel) (pc' := 16) (L' := [(0, .ref 60), (1, .int g), (2, .int h), (3, .int t)]) (st' := [.int 1, .int h, .int g, .ref 65]) rfl ?_
  refine mz_ine (off := 7) (tgt := 23) C (by decide +kernel) (by decide) (fun h1 => ?_) (fun h1 => ?_)
  · refine mz_go FLX0 KLX0 C [(23, .iconst (-1))] (by decide +kernel) (pc' := 24) (L' := [(0, .ref 60), (1, .int g), (2, .int h), (3, .int t)]) (st' := [.int (-1), .int g, .ref 65]) rfl ?_
    refine mz_callV (As := [.int g, .int (-1)]) (rest := []) C E' (f_Row_set l D cA ρ hI (r := 65) (a := 66) (n := 12) rfl rfl (by decide) (mz_s M 64 (mz_rs 12 (M 64) g h)) g (-1)) hy_X6_set wl_X0_58 rfl rfl rfl ⟨Nat.le_of_ble_eq_true rfl, Nat.le_of_ble_eq_true rfl⟩ ⟨Nat.le_refl _, Nat.le_refl _⟩ (Nat.le_of_ble_eq_true rfl) (by decide +kernel) ?_ rfl
    exact mz_vret C E (by decide +kernel) (by unfold g_X0_changeHabit; rw [if_neg h1]; try rfl)
  · refine mz_go FLX0 KLX0 C [(19, .iload_n 3), (20, .goto 4)] (by decide +kernel) (pc' := 24) (L' := [(0, .ref 60), (1, .int g), (2, .int h), (3, .int t)]) (st' := [.int t, .int g, .ref 65]) rfl ?_
    refine mz_callV (As := [.int g, .int t]) (rest := []) C E' (f_Row_set l D cA ρ hI (r := 65) (a := 66) (n := 12) rfl rfl (by decide) (mz_s M 64 (mz_rs 12 (M 64) g h)) g t) hy_X6_set wl_X0_58 rfl rfl rfl ⟨Nat.le_of_ble_eq_true rfl, Nat.le_of_ble_eq_true rfl⟩ ⟨Nat.le_refl _, Nat.le_refl _⟩ (Nat.le_of_ble_eq_true rfl) (by decide +kernel) ?_ rfl
    exact mz_vret C E (by decide +kernel) (by unfold g_X0_changeHabit; rw [if_pos h1]; try rfl)
def g_X0_enter (M : mz_Mem) (p : Int32) : Int32 × mz_Mem := ((M 60 0), (g_X0_changeHabit (mz_s (mz_s (mz_s M 60 (upd (M 60) 0 ((M 60 0) + 1))) 62 (mz_rs 12 ((mz_s M 60 (upd (M 60) 0 ((M 60 0) + 1))) 62) (M 60 0) p)) 77 (mz_ra 8 ((mz_s (mz_s M 60 (upd (M 60) 0 ((M 60 0) + 1))) 62 (mz_rs 12 ((mz_s M 60 (upd (M 60) 0 ((M 60 0) + 1))) 62) (M 60 0) p)) 77) p 1)) (M 60 0) 0 (-1)))
set_option maxHeartbeats 4000000 in
theorem f_X0_enter (l : Launch) (D : va_G) (cA : ClassId) (ρ : Nat → Nat) (hI : mz_I ρ mz_lay1) (M : mz_Mem) (p : Int32) : mz_M l D vwCl cA ρ mz_lay1 yX0_enter cX0_enter 3 (some .int) 2 45 [.ref 60, .int p] M (some (.int (g_X0_enter M p).1)) (g_X0_enter M p).2 := by
  refine mz_in0 (by decide +kernel) (Nat.le_of_ble_eq_true rfl) (fun Γ C E => ?_)
  have E' := (⟨_, _, _, E⟩ : ∃ Qc mc ms, mz_E Γ Qc mc ms (mz_A ρ mz_lay1))
  refine mz_go FLX0 KLX0 C [(0, .aload_n 0), (1, .getfield 47), (4, .istore_n 2), (5, .aload_n 0), (6, .dup), (7, .getfield 47), (10, .iconst 1), (11, .iadd)] (by decide +kernel) (pc' := 12) (L' := [(2, .int (M 60 0)), (0, .ref 60), (1, .int p)]) (st' := [.int ((M 60 0) + 1), .ref 60]) rfl ?_
  refine mz_put (id := 60) (ci := 0) (j := 0) (T := TX0) (N := 9) C E' hI rfl rfl rfl (by decide) iu_X0 tyX0 tyX0_ok nmX0 wf_X0_47 rfl (by decide +kernel) (by decide +kernel) ?_
  refine mz_go FLX0 KLX0 C [(15, .aload_n 0), (16, .getfield 14), (19, .iload_n 2), (20, .iload_n 1)] (by decide +kernel) (pc' := 21) (L' := [(2, .int (M 60 0)), (0, .ref 60), (1, .int p)]) (st' := [.int p, .int (M 60 0), .ref 61]) rfl ?_
  refine mz_callV (As := [.int (M 60 0), .int p]) (rest := []) C E' (f_Row_set l D cA ρ hI (r := 61) (a := 62) (n := 12) rfl rfl (by decide) (mz_s M 60 (upd (M 60) 0 ((M 60 0) + 1))) (M 60 0) p) hy_X6_set wl_X0_58 rfl rfl rfl ⟨Nat.le_of_ble_eq_true rfl, Nat.le_of_ble_eq_true rfl⟩ ⟨Nat.le_refl _, Nat.le_refl _⟩ (Nat.le_of_ble_eq_true rfl) (by decide +kernel) ?_ rfl
  refine mz_go FLX0 KLX0 C [(24, .aload_n 0), (25, .getfield 44), (28, .iload_n 1), (29, .iconst 1)] (by decide +kernel) (pc' := 30) (L' := [(2, .int (M 60 0)), (0, .ref 60), (1, .int p)]) (st' := [.int 1, .int p, .ref 76]) rfl ?_
  refine mz_callV (As := [.int p, .int 1]) (rest := []) C E' (f_Row_add l D cA ρ hI (r := 76) (a := 77) (n := 8) rfl rfl (by decide) (mz_s (mz_s M 60 (upd (M 60) 0 ((M 60 0) + 1))) 62 (mz_rs 12 ((mz_s M 60 (upd (M 60) 0 ((M 60 0) + 1))) 62) (M 60 0) p)) p 1) hy_X6_add wl_X0_61 rfl rfl rfl ⟨Nat.le_of_ble_eq_true rfl, Nat.le_of_ble_eq_true rfl⟩ ⟨Nat.le_refl _, Nat.le_refl _⟩ (Nat.le_of_ble_eq_true rfl) (by decide +kernel) ?_ rfl
  refine mz_go FLX0 KLX0 C [(33, .aload_n 0), (34, .iload_n 2), (35, .iconst 0), (36, .iconst (-1))] (by decide +kernel) (pc' := 37) (L' := [(2, .int (M 60 0)), (0, .ref 60), (1, .int p)]) (st' := [.int (-1), .int 0, .int (M 60 0), .ref 60]) rfl ?_
  refine mz_callV (As := [.int (M 60 0), .int 0, .int (-1)]) (rest := []) C E' (f_X0_changeHabit l D cA ρ hI (mz_s (mz_s (mz_s M 60 (upd (M 60) 0 ((M 60 0) + 1))) 62 (mz_rs 12 ((mz_s M 60 (upd (M 60) 0 ((M 60 0) + 1))) 62) (M 60 0) p)) 77 (mz_ra 8 ((mz_s (mz_s M 60 (upd (M 60) 0 ((M 60 0) + 1))) 62 (mz_rs 12 ((mz_s M 60 (upd (M 60) 0 ((M 60 0) + 1))) 62) (M 60 0) p)) 77) p 1)) (M 60 0) 0 (-1)) hy_X0_changeHabit wl_X0_64 rfl rfl rfl ⟨Nat.le_of_ble_eq_true rfl, Nat.le_of_ble_eq_true rfl⟩ ⟨Nat.le_refl _, Nat.le_refl _⟩ (Nat.le_of_ble_eq_true rfl) (by decide +kernel) ?_ rfl
  refine mz_go FLX0 KLX0 C [(40, .iload_n 2)] (by decide +kernel) (pc' := 41) (L' := [(2, .int (M 60 0)), (0, .ref 60), (1, .int p)]) (st' := [.int (M 60 0)]) rfl ?_
  exact mz_iret C E (by decide +kernel) (rfl) (rfl)
def g_X0_walk (M : mz_Mem) (g : Int32) (to_ : Int32) : mz_Mem := (mz_s (mz_s (mz_s (mz_s M 77 (mz_ra 8 (M 77) (mz_rg 12 (M 62) g) (-1))) 77 (mz_ra 8 ((mz_s M 77 (mz_ra 8 (M 77) (mz_rg 12 (M 62) g) (-1))) 77) to_ 1)) 62 (mz_rs 12 ((mz_s (mz_s M 77 (mz_ra 8 (M 77) (mz_rg 12 (M 62) g) (-1))) 77 (mz_ra 8 ((mz_s M 77 (mz_ra 8 (M 77) (mz_rg 12 (M 62) g) (-1))) 77) to_ 1)) 62) g to_)) 70 (mz_ra 12 ((mz_s (mz_s (mz_s M 77 (mz_ra 8 (M 77) (mz_rg 12 (M 62) g) (-1))) 77 (mz_ra 8 ((mz_s M 77 (mz_ra 8 (M 77) (mz_rg 12 (M 62) g) (-1))) 77) to_ 1)) 62 (mz_rs 12 ((mz_s (mz_s M 77 (mz_ra 8 (M 77) (mz_rg 12 (M 62) g) (-1))) 77 (mz_ra 8 ((mz_s M 77 (mz_ra 8 (M 77) (mz_rg 12 (M 62) g) (-1))) 77) to_ 1)) 62) g to_)) 70) g 1))
theorem g_X0_walk_hs (M : mz_Mem) (g : Int32) (to_ : Int32) : mz_hs M (g_X0_walk M g to_) := by
  unfold g_X0_walk
  exact (((mz_hs_s (by decide)).trans (mz_hs_s (by decide))).trans (mz_hs_s (by decide))).trans (mz_hs_s (by decide))

set_option maxHeartbeats 4000000 in
theorem f_X0_walk (l : Launch) (D : va_G) (cA : ClassId) (ρ : Nat → Nat) (hI : mz_I ρ mz_lay1) (M : mz_Mem) (g : Int32) (to_ : Int32) : mz_M l D vwCl cA ρ mz_lay1 yX0_walk cX0_walk 3 none 1 22 [.ref 60, .int g, .int to_] M none (g_X0_walk M g to_) := by
  refine mz_in0 (by decide +kernel) (Nat.le_of_ble_eq_true rfl) (fun Γ C E => ?_)
  have E' := (⟨_, _, _, E⟩ : ∃ Qc mc ms, mz_E Γ Qc mc ms (mz_A ρ mz_lay1))
  refine mz_go FLX0 KLX0 C [(0, .aload_n 0), (1, .getfield 44), (4, .aload_n 0), (5, .getfield 14), (8, .iload_n 1)] (by decide +kernel) (pc' := 9) (L' := [(0, .ref 60), (1, .int g), (2, .int to_)]) (st' := [.int g, .ref 61, .ref 76]) rfl ?_
  refine mz_callV (As := [.int g]) (rest := [.ref 76]) C E' (f_Row_get l D cA ρ hI (r := 61) (a := 62) (n := 12) rfl rfl (by decide) M g) hy_X6_get wl_X0_68 rfl rfl rfl ⟨Nat.le_of_ble_eq_true rfl, Nat.le_of_ble_eq_true rfl⟩ ⟨Nat.le_refl _, Nat.le_refl _⟩ (Nat.le_of_ble_eq_true rfl) (by decide +kernel) ?_ rfl
  refine mz_go FLX0 KLX0 C [(12, .iconst (-1))] (by decide +kernel) (pc' := 13) (L' := [(0, .ref 60), (1, .int g), (2, .int to_)]) (st' := [.int (-1), .int (mz_rg 12 (M 62) g), .ref 76]) rfl ?_
  refine mz_callV (As := [.int (mz_rg 12 (M 62) g), .int (-1)]) (rest := []) C E' (f_Row_add l D cA ρ hI (r := 76) (a := 77) (n := 8) rfl rfl (by decide) M (mz_rg 12 (M 62) g) (-1)) hy_X6_add wl_X0_61 rfl rfl rfl ⟨Nat.le_of_ble_eq_true rfl, Nat.le_of_ble_eq_true rfl⟩ ⟨Nat.le_refl _, Nat.le_refl _⟩ (Nat.le_of_ble_eq_true rfl) (by decide +kernel) ?_ rfl
  refine mz_go FLX0 KLX0 C [(16, .aload_n 0), (17, .getfield 44), (20, .iload_n 2), (21, .iconst 1)] (by decide +kernel) (pc' := 22) (L' := [(0, .ref 60), (1, .int g), (2, .int to_)]) (st' := [.int 1, .int to_, .ref 76]) rfl ?_
  refine mz_callV (As := [.int to_, .int 1]) (rest := []) C E' (f_Row_add l D cA ρ hI (r := 76) (a := 77) (n := 8) rfl rfl (by decide) (mz_s M 77 (mz_ra 8 (M 77) (mz_rg 12 (M 62) g) (-1))) to_ 1) hy_X6_add wl_X0_61 rfl rfl rfl ⟨Nat.le_of_ble_eq_true rfl, Nat.le_of_ble_eq_true rfl⟩ ⟨Nat.le_refl _, Nat.le_refl _⟩ (Nat.le_of_ble_eq_true rfl) (by decide +kernel) ?_ rfl
  refine mz_go FLX0 KLX0 C [(25, .aload_n 0), (26, .getfield 14), (29, .iload_n 1), (30, .iload_n 2)] (by decide +kernel) (pc' := 31) (L' := [(0, .ref 60), (1, .int g), (2, .int to_)]) (st' := [.int to_, .int g, .ref 61]) rfl ?_
  refine mz_callV (As := [.int g, .int to_]) (rest := []) C E' (f_Row_set l D cA ρ hI (r := 61) (a := 62) (n := 12) rfl rfl (by decide) (mz_s (mz_s M 77 (mz_ra 8 (M 77) (mz_rg 12 (M 62) g) (-1))) 77 (mz_ra 8 ((mz_s M 77 (mz_ra 8 (M 77) (mz_rg 12 (M 62) g) (-1))) 77) to_ 1)) g to_) hy_X6_set wl_X0_58 rfl rfl rfl ⟨Nat.le_of_ble_eq_true rfl, Nat.le_of_ble_eq_true rfl⟩ ⟨Nat.le_refl _, Nat.le_refl _⟩ (Nat.le_of_ble_eq_true rfl) (by decide +kernel) ?_ rfl
  refine mz_go FLX0 KLX0 C [(34, .aload_n 0), (35, .getfield 29), (38, .iload_n 1), (39, .iconst 1)] (by decide +kernel) (pc' := 40) (L' := [(0, .ref 60), (1, .int g), (2, .int to_)]) (st' := [.int 1, .int g, .ref 69]) rfl ?_
  refine mz_callV (As := [.int g, .int 1]) (rest := []) C E' (f_Row_add l D cA ρ hI (r := 69) (a := 70) (n := 12) rfl rfl (by decide) (mz_s (mz_s (mz_s M 77 (mz_ra 8 (M 77) (mz_rg 12 (M 62) g) (-1))) 77 (mz_ra 8 ((mz_s M 77 (mz_ra 8 (M 77) (mz_rg 12 (M 62) g) (-1))) 77) to_ 1)) 62 (mz_rs 12 ((mz_s (mz_s M 77 (mz_ra 8 (M 77) (mz_rg 12 (M 62) g) (-1))) 77 (mz_ra 8 ((mz_s M 77 (mz_ra 8 (M 77) (mz_rg 12 (M 62) g) (-1))) 77) to_ 1)) 62) g to_)) g 1) hy_X6_add wl_X0_61 rfl rfl rfl ⟨Nat.le_of_ble_eq_true rfl, Nat.le_of_ble_eq_true rfl⟩ ⟨Nat.le_refl _, Nat.le_refl _⟩ (Nat.le_of_ble_eq_true rfl) (by decide +kernel) ?_ rfl
  exact mz_vret C E (by decide +kernel) (rfl)
def g_X0_knows (M : mz_Mem) (g : Int32) (k : Int32) : Int32 := if ((mz_rg 12 (M 68) g) &&& (1 <<< (k &&& 31))) = 0 then 0 else 1
set_option maxHeartbeats 4000000 in
theorem f_X0_knows (l : Launch) (D : va_G) (cA : ClassId) (ρ : Nat → Nat) (hI : mz_I ρ mz_lay1) (M : mz_Mem) (g : Int32) (k : Int32) : mz_M l D vwCl cA ρ mz_lay1 yX0_knows cX0_knows 3 (some .boolean) 1 21 [.ref 60, .int g, .int k] M (some (.int (g_X0_knows M g k))) M := by
  refine mz_in0 (by decide +kernel) (Nat.le_of_ble_eq_true rfl) (fun Γ C E => ?_)
  have E' := (⟨_, _, _, E⟩ : ∃ Qc mc ms, mz_E Γ Qc mc ms (mz_A ρ mz_lay1))
  refine mz_go FLX0 KLX0 C [(0, .aload_n 0), (1, .getfield 26), (4, .iload_n 1)] (by decide +kernel) (pc' := 5) (L' := [(0, .ref 60), (1, .int g), (2, .int k)]) (st' := [.int g, .ref 67]) rfl ?_
  refine mz_callV (As := [.int g]) (rest := []) C E' (f_Row_get l D cA ρ hI (r := 67) (a := 68) (n := 12) rfl rfl (by decide) M g) hy_X6_get wl_X0_68 rfl rfl rfl ⟨Nat.le_of_ble_eq_true rfl, Nat.le_of_ble_eq_true rfl⟩ ⟨Nat.le_refl _, Nat.le_refl _⟩ (Nat.le_of_ble_eq_true rfl) (by decide +kernel) ?_ rfl
  refine mz_go FLX0 KLX0 C [(8, .iconst 1), (9, .iload_n 2), (10, .ishl), (11, .iand)] (by decide +kernel) (pc' := 12) (L' := [(0, .ref 60), (1, .int g), (2, .int k)]) (st' := [.int ((mz_rg 12 (M 68) g) &&& (1 <<< (k &&& 31)))]) rfl ?_
  refine mz_zeq (off := 7) (tgt := 19) C (by decide +kernel) (by decide) (fun h1 => ?_) (fun h1 => ?_)
  · refine mz_go FLX0 KLX0 C [(19, .iconst 0)] (by decide +kernel) (pc' := 20) (L' := [(0, .ref 60), (1, .int g), (2, .int k)]) (st' := [.int 0]) rfl ?_
    exact mz_zret C E (by decide +kernel) (Or.inl rfl) (by unfold g_X0_knows; rw [if_pos h1]; try rfl) (rfl)
  · refine mz_go FLX0 KLX0 C [(15, .iconst 1), (16, .goto 4)] (by decide +kernel) (pc' := 20) (L' := [(0, .ref 60), (1, .int g), (2, .int k)]) (st' := [.int 1]) rfl ?_
    exact mz_zret C E (by decide +kernel) (Or.inr rfl) (by unfold g_X0_knows; rw [if_neg h1]; try rfl) (rfl)
def g_X0_see (M : mz_Mem) (g : Int32) (k : Int32) (m : Int32) : mz_Mem := if ((mz_gg 144 (M 73 0) (M 75) g k) + 1) < m then (mz_s M 75 (mz_gs 144 (M 73 0) (M 75) g k ((mz_gg 144 (M 73 0) (M 75) g k) + 1))) else (mz_s (mz_s M 75 (mz_gs 144 (M 73 0) (M 75) g k ((mz_gg 144 (M 73 0) (M 75) g k) + 1))) 68 (mz_rs 12 ((mz_s M 75 (mz_gs 144 (M 73 0) (M 75) g k ((mz_gg 144 (M 73 0) (M 75) g k) + 1))) 68) g ((mz_rg 12 ((mz_s M 75 (mz_gs 144 (M 73 0) (M 75) g k ((mz_gg 144 (M 73 0) (M 75) g k) + 1))) 68) g) ||| (1 <<< (k &&& 31)))))
theorem g_X0_see_hs (M : mz_Mem) (g : Int32) (k : Int32) (m : Int32) : mz_hs M (g_X0_see M g k m) := by
  unfold g_X0_see
  by_cases h1 : ((mz_gg 144 (M 73 0) (M 75) g k) + 1) < m
  · rw [if_pos h1]
    exact mz_hs_s (by decide)
  · rw [if_neg h1]
    exact (mz_hs_s (by decide)).trans (mz_hs_s (by decide))

set_option maxHeartbeats 4000000 in
theorem f_X0_see (l : Launch) (D : va_G) (cA : ClassId) (ρ : Nat → Nat) (hI : mz_I ρ mz_lay1) (M : mz_Mem) (g : Int32) (k : Int32) (m : Int32) : mz_M l D vwCl cA ρ mz_lay1 yX0_see cX0_see 5 none 2 45 [.ref 60, .int g, .int k, .int m] M none (g_X0_see M g k m) := by
  refine mz_in0 (by decide +kernel) (Nat.le_of_ble_eq_true rfl) (fun Γ C E => ?_)
  have E' := (⟨_, _, _, E⟩ : ∃ Qc mc ms, mz_E Γ Qc mc ms (mz_A ρ mz_lay1))
  refine mz_go FLX0 KLX0 C [(0, .aload_n 0), (1, .getfield 40), (4, .iload_n 1), (5, .iload_n 2)] (by decide +kernel) (pc' := 6) (L' := [(0, .ref 60), (1, .int g), (2, .int k), (3, .int m)]) (st' := [.int k, .int g, .ref 73]) rfl ?_
  refine mz_callV (As := [.int g, .int k]) (rest := []) C E' (f_Grid_get l D cA ρ hI (g := 73) (r := 74) (a := 75) (n := 144) rfl rfl rfl (by decide) M g k) hy_X3_get wl_X0_72 rfl rfl rfl ⟨Nat.le_of_ble_eq_true rfl, Nat.le_of_ble_eq_true rfl⟩ ⟨Nat.le_refl _, Nat.le_refl _⟩ (Nat.le_of_ble_eq_true rfl) (by decide +kernel) ?_ rfl
  refine mz_go FLX0 KLX0 C [(9, .iconst 1), (10, .iadd), (11, .istore 4), (13, .aload_n 0), (14, .getfield 40), (17, .iload_n 1), (18, .iload_n 2), (19, .iload 4)] (by decide +kernel) (pc' := 21) (L' := [(4, .int ((mz_gg 144 (M 73 0) (M 75) g k) + 1)), (0, .ref 60), (1, .int g), (2, .int k), (3, .int m)]) (st' := [.int ((mz_gg 144 (M 73 0) (M 75) g k) + 1), .int k, .int g, .ref 73]) rfl ?_
  refine mz_callV (As := [.int g, .int k, .int ((mz_gg 144 (M 73 0) (M 75) g k) + 1)]) (rest := []) C E' (f_Grid_set l D cA ρ hI (g := 73) (r := 74) (a := 75) (n := 144) rfl rfl rfl (by decide) M g k ((mz_gg 144 (M 73 0) (M 75) g k) + 1)) hy_X3_set wl_X0_75 rfl rfl rfl ⟨Nat.le_of_ble_eq_true rfl, Nat.le_of_ble_eq_true rfl⟩ ⟨Nat.le_refl _, Nat.le_refl _⟩ (Nat.le_of_ble_eq_true rfl) (by decide +kernel) ?_ rfl
  refine mz_go FLX0 KLX0 C [(24, .iload 4), (26, .iload_n 3)] (by decide +kernel) (pc' := 27) (L' := [(4, .int ((mz_gg 144 (M 73 0) (M 75) g k) + 1)), (0, .ref 60), (1, .int g), (2, .int k), (3, .int m)]) (st' := [.int m, .int ((mz_gg 144 (M 73 0) (M 75) g k) + 1)]) rfl ?_
  refine mz_ilt (off := 23) (tgt := 50) C (by decide +kernel) (by decide) (fun h1 => ?_) (fun h1 => ?_)
  · exact mz_vret C E (by decide +kernel) (by unfold g_X0_see; rw [if_pos h1]; try rfl)
  · refine mz_go FLX0 KLX0 C [(30, .aload_n 0), (31, .getfield 26), (34, .iload_n 1), (35, .aload_n 0), (36, .getfield 26), (39, .iload_n 1)] (by decide +kernel) (pc' := 40) (L' := [(4, .int ((mz_gg 144 (M 73 0) (M 75) g k) + 1)), (0, .ref 60), (1, .int g), (2, .int k), (3, .int m)]) (st' := [.int g, .ref 67, .int g, .ref 67]) rfl ?_
    refine mz_callV (As := [.int g]) (rest := [.int g, .ref 67]) C E' (f_Row_get l D cA ρ hI (r := 67) (a := 68) (n := 12) rfl rfl (by decide) (mz_s M 75 (mz_gs 144 (M 73 0) (M 75) g k ((mz_gg 144 (M 73 0) (M 75) g k) + 1))) g) hy_X6_get wl_X0_68 rfl rfl rfl ⟨Nat.le_of_ble_eq_true rfl, Nat.le_of_ble_eq_true rfl⟩ ⟨Nat.le_refl _, Nat.le_refl _⟩ (Nat.le_of_ble_eq_true rfl) (by decide +kernel) ?_ rfl
    refine mz_go FLX0 KLX0 C [(43, .iconst 1), (44, .iload_n 2), (45, .ishl), (46, .ior)] (by decide +kernel) (pc' := 47) (L' := [(4, .int ((mz_gg 144 (M 73 0) (M 75) g k) + 1)), (0, .ref 60), (1, .int g), (2, .int k), (3, .int m)]) (st' := [.int ((mz_rg 12 ((mz_s M 75 (mz_gs 144 (M 73 0) (M 75) g k ((mz_gg 144 (M 73 0) (M 75) g k) + 1))) 68) g) ||| (1 <<< (k &&& 31))), .int g, .ref 67]) rfl ?_
    refine mz_callV (As := [.int g, .int ((mz_rg 12 ((mz_s M 75 (mz_gs 144 (M 73 0) (M 75) g k ((mz_gg 144 (M 73 0) (M 75) g k) + 1))) 68) g) ||| (1 <<< (k &&& 31)))]) (rest := []) C E' (f_Row_set l D cA ρ hI (r := 67) (a := 68) (n := 12) rfl rfl (by decide) (mz_s M 75 (mz_gs 144 (M 73 0) (M 75) g k ((mz_gg 144 (M 73 0) (M 75) g k) + 1))) g ((mz_rg 12 ((mz_s M 75 (mz_gs 144 (M 73 0) (M 75) g k ((mz_gg 144 (M 73 0) (M 75) g k) + 1))) 68) g) ||| (1 <<< (k &&& 31)))) hy_X6_set wl_X0_58 rfl rfl rfl ⟨Nat.le_of_ble_eq_true rfl, Nat.le_of_ble_eq_true rfl⟩ ⟨Nat.le_refl _, Nat.le_refl _⟩ (Nat.le_of_ble_eq_true rfl) (by decide +kernel) ?_ rfl
    exact mz_vret C E (by decide +kernel) (by unfold g_X0_see; rw [if_neg h1]; try rfl)
def g_X0_countKnownBy (M : mz_Mem) (g : Int32) : Int32 := (mz_bitc (mz_rg 12 (M 68) g))
set_option maxHeartbeats 4000000 in
theorem f_X0_countKnownBy (l : Launch) (D : va_G) (cA : ClassId) (ρ : Nat → Nat) (hI : mz_I ρ mz_lay1) (M : mz_Mem) (g : Int32) : mz_M l D vwCl cA ρ mz_lay1 yX0_countKnownBy cX0_countKnownBy 2 (some .int) 1 21 [.ref 60, .int g] M (some (.int (g_X0_countKnownBy M g))) M := by
  refine mz_in0 (by decide +kernel) (Nat.le_of_ble_eq_true rfl) (fun Γ C E => ?_)
  have E' := (⟨_, _, _, E⟩ : ∃ Qc mc ms, mz_E Γ Qc mc ms (mz_A ρ mz_lay1))
  refine mz_go FLX0 KLX0 C [(0, .aload_n 0), (1, .getfield 26), (4, .iload_n 1)] (by decide +kernel) (pc' := 5) (L' := [(0, .ref 60), (1, .int g)]) (st' := [.int g, .ref 67]) rfl ?_
  refine mz_callV (As := [.int g]) (rest := []) C E' (f_Row_get l D cA ρ hI (r := 67) (a := 68) (n := 12) rfl rfl (by decide) M g) hy_X6_get wl_X0_68 rfl rfl rfl ⟨Nat.le_of_ble_eq_true rfl, Nat.le_of_ble_eq_true rfl⟩ ⟨Nat.le_refl _, Nat.le_refl _⟩ (Nat.le_of_ble_eq_true rfl) (by decide +kernel) ?_ rfl
  refine mz_callS (As := [.int (mz_rg 12 (M 68) g)]) (rest := []) C E' (f_J6_bitCount_0f7a4 l D cA ρ hI M (mz_rg 12 (M 68) g)) hs_J6_bitCount_0f7a4 wl_X0_77 rfl ⟨Nat.le_of_ble_eq_true rfl, Nat.le_of_ble_eq_true rfl⟩ ⟨Nat.le_refl _, Nat.le_refl _⟩ (Nat.le_of_ble_eq_true rfl) (by decide +kernel) ?_ rfl
  exact mz_iret C E (by decide +kernel) (rfl) (rfl)
def g_X0_countKnowing_1 (M : mz_Mem) (k : Int32) (i2 : Int32) (a3 : Int32) : Int32 := if (g_X0_knows M i2 k) = 0 then a3 else a3 + 1
def g_X0_countKnowing (M : mz_Mem) (k : Int32) : Int32 := (mz_fr (M 60 0) (g_X0_countKnowing_1 M k) 0)
set_option maxHeartbeats 4000000 in
theorem f_X0_countKnowing (l : Launch) (D : va_G) (cA : ClassId) (ρ : Nat → Nat) (hI : mz_I ρ mz_lay1) (M : mz_Mem) (k : Int32) : mz_M l D vwCl cA ρ mz_lay1 yX0_countKnowing cX0_countKnowing 4 (some .int) 2 43 [.ref 60, .int k] M (some (.int (g_X0_countKnowing M k))) M := by
  refine mz_in0 (by decide +kernel) (Nat.le_of_ble_eq_true rfl) (fun Γ C E => ?_)
  have E' := (⟨_, _, _, E⟩ : ∃ Qc mc ms, mz_E Γ Qc mc ms (mz_A ρ mz_lay1))
  refine mz_go FLX0 KLX0 C [(0, .iconst 0), (1, .istore_n 2), (2, .iconst 0), (3, .istore_n 3)] (by decide +kernel) (pc' := 4) (L' := [(3, .int 0), (2, .int 0), (0, .ref 60), (1, .int k)]) (st' := []) rfl ?_
  refine mz_sub (L' := [(0, .ref 60), (1, .int k), (2, .int 0), (3, .int 0)]) (by simp) ?_
  refine mz_loop (M 60 0) (g_X0_countKnowing_1 M k) (fun (i : Int32) (a : Int32) => mz_W Γ ρ 4 0 0 (mz_H D vwCl cA ρ mz_lay1 M) 4 [(0, .ref 60), (1, .int k), (2, .int a), (3, .int i)] []) 0 (fun i2 a3 hi4 hx5 hb6 => ?_)
  refine mz_go FLX0 KLX0 C [(4, .iload_n 3), (5, .aload_n 0), (6, .getfield 47)] (by decide +kernel) (pc' := 9) (L' := [(0, .ref 60), (1, .int k), (2, .int a3), (3, .int i2)]) (st' := [.int (M 60 0), .int i2]) rfl ?_
  refine mz_ige (off := 21) (tgt := 30) C (by decide +kernel) (by decide) (fun h1 => ?_) (fun h1 => ?_)
  · have e10 := hx5 h1
    subst e10
    refine mz_sub (L' := [(0, .ref 60), (1, .int k), (2, .int (mz_fr (M 60 0) (g_X0_countKnowing_1 M k) 0))]) (by simp) ?_
    refine mz_go FLX0 KLX0 C [(30, .iload_n 2)] (by decide +kernel) (pc' := 31) (L' := [(0, .ref 60), (1, .int k), (2, .int (mz_fr (M 60 0) (g_X0_countKnowing_1 M k) 0))]) (st' := [.int (mz_fr (M 60 0) (g_X0_countKnowing_1 M k) 0)]) rfl ?_
    exact mz_iret C E (by decide +kernel) (rfl) (rfl)
  · refine mz_go FLX0 KLX0 C [(12, .aload_n 0), (13, .iload_n 3), (14, .iload_n 1)] (by decide +kernel) (pc' := 15) (L' := [(0, .ref 60), (1, .int k), (2, .int a3), (3, .int i2)]) (st' := [.int k, .int i2, .ref 60]) rfl ?_
    refine mz_callV (As := [.int i2, .int k]) (rest := []) C E' (f_X0_knows l D cA ρ hI M i2 k) hy_X0_knows wl_X0_82 rfl rfl rfl ⟨Nat.le_of_ble_eq_true rfl, Nat.le_of_ble_eq_true rfl⟩ ⟨Nat.le_refl _, Nat.le_refl _⟩ (Nat.le_of_ble_eq_true rfl) (by decide +kernel) ?_ rfl
    refine mz_zeq (off := 6) (tgt := 24) C (by decide +kernel) (by decide) (fun h11 => ?_) (fun h11 => ?_)
    · refine mz_go FLX0 KLX0 C [(24, .iinc 3 1), (27, .goto (-23))] (by decide +kernel) (pc' := 4) (L' := [(3, .int (i2 + 1)), (0, .ref 60), (1, .int k), (2, .int a3)]) (st' := []) rfl ?_
      have hb12 := hb6 h1
      rw [show g_X0_countKnowing_1 M k i2 a3 = a3 from by unfold g_X0_countKnowing_1; rw [if_pos h11]] at hb12
      exact mz_sub (by simp) hb12
    · refine mz_go FLX0 KLX0 C [(21, .iinc 2 1), (24, .iinc 3 1), (27, .goto (-23))] (by decide +kernel) (pc' := 4) (L' := [(3, .int (i2 + 1)), (2, .int (a3 + 1)), (0, .ref 60), (1, .int k)]) (st' := []) rfl ?_
      have hb13 := hb6 h1
      rw [show g_X0_countKnowing_1 M k i2 a3 = a3 + 1 from by unfold g_X0_countKnowing_1; rw [if_neg h11]] at hb13
      exact mz_sub (by simp) hb13
def g_X0_countKnown_1 (M : mz_Mem) (i2 : Int32) (a3 : Int32) : Int32 := a3 + (g_X0_countKnownBy M i2)
def g_X0_countKnown (M : mz_Mem) : Int32 := (mz_fr (M 60 0) (g_X0_countKnown_1 M) 0)
set_option maxHeartbeats 4000000 in
theorem f_X0_countKnown (l : Launch) (D : va_G) (cA : ClassId) (ρ : Nat → Nat) (hI : mz_I ρ mz_lay1) (M : mz_Mem) : mz_M l D vwCl cA ρ mz_lay1 yX0_countKnown cX0_countKnown 3 (some .int) 2 42 [.ref 60] M (some (.int (g_X0_countKnown M))) M := by
  refine mz_in0 (by decide +kernel) (Nat.le_of_ble_eq_true rfl) (fun Γ C E => ?_)
  have E' := (⟨_, _, _, E⟩ : ∃ Qc mc ms, mz_E Γ Qc mc ms (mz_A ρ mz_lay1))
  refine mz_go FLX0 KLX0 C [(0, .iconst 0), (1, .istore_n 1), (2, .iconst 0), (3, .istore_n 2)] (by decide +kernel) (pc' := 4) (L' := [(2, .int 0), (1, .int 0), (0, .ref 60)]) (st' := []) rfl ?_
  refine mz_sub (L' := [(0, .ref 60), (1, .int 0), (2, .int 0)]) (by simp) ?_
  refine mz_loop (M 60 0) (g_X0_countKnown_1 M) (fun (i : Int32) (a : Int32) => mz_W Γ ρ 3 0 0 (mz_H D vwCl cA ρ mz_lay1 M) 4 [(0, .ref 60), (1, .int a), (2, .int i)] []) 0 (fun i2 a3 hi4 hx5 hb6 => ?_)
  refine mz_go FLX0 KLX0 C [(4, .iload_n 2), (5, .aload_n 0), (6, .getfield 47)] (by decide +kernel) (pc' := 9) (L' := [(0, .ref 60), (1, .int a3), (2, .int i2)]) (st' := [.int (M 60 0), .int i2]) rfl ?_
  refine mz_ige (off := 17) (tgt := 26) C (by decide +kernel) (by decide) (fun h1 => ?_) (fun h1 => ?_)
  · have e10 := hx5 h1
    subst e10
    refine mz_sub (L' := [(0, .ref 60), (1, .int (mz_fr (M 60 0) (g_X0_countKnown_1 M) 0))]) (by simp) ?_
    refine mz_go FLX0 KLX0 C [(26, .iload_n 1)] (by decide +kernel) (pc' := 27) (L' := [(0, .ref 60), (1, .int (mz_fr (M 60 0) (g_X0_countKnown_1 M) 0))]) (st' := [.int (mz_fr (M 60 0) (g_X0_countKnown_1 M) 0)]) rfl ?_
    exact mz_iret C E (by decide +kernel) (rfl) (rfl)
  · refine mz_go FLX0 KLX0 C [(12, .iload_n 1), (13, .aload_n 0), (14, .iload_n 2)] (by decide +kernel) (pc' := 15) (L' := [(0, .ref 60), (1, .int a3), (2, .int i2)]) (st' := [.int i2, .ref 60, .int a3]) rfl ?_
    refine mz_callV (As := [.int i2]) (rest := [.int a3]) C E' (f_X0_countKnownBy l D cA ρ hI M i2) hy_X0_countKnownBy wl_X0_86 rfl rfl rfl ⟨Nat.le_of_ble_eq_true rfl, Nat.le_of_ble_eq_true rfl⟩ ⟨Nat.le_refl _, Nat.le_refl _⟩ (Nat.le_of_ble_eq_true rfl) (by decide +kernel) ?_ rfl
    refine mz_go FLX0 KLX0 C [(18, .iadd), (19, .istore_n 1), (20, .iinc 2 1), (23, .goto (-19))] (by decide +kernel) (pc' := 4) (L' := [(2, .int (i2 + 1)), (1, .int (a3 + (g_X0_countKnownBy M i2))), (0, .ref 60)]) (st' := []) rfl ?_
    have hb11 := hb6 h1
    rw [show g_X0_countKnown_1 M i2 a3 = a3 + (g_X0_countKnownBy M i2) from rfl] at hb11
    exact mz_sub (by simp) hb11
def g_X0_knownByAny_1 (M : mz_Mem) (i2 : Int32) (a3 : Int32) : Int32 := a3 ||| (mz_rg 12 (M 68) i2)
def g_X0_knownByAny (M : mz_Mem) : Int32 := (mz_fr (M 60 0) (g_X0_knownByAny_1 M) 0)
set_option maxHeartbeats 4000000 in
theorem f_X0_knownByAny (l : Launch) (D : va_G) (cA : ClassId) (ρ : Nat → Nat) (hI : mz_I ρ mz_lay1) (M : mz_Mem) : mz_M l D vwCl cA ρ mz_lay1 yX0_knownByAny cX0_knownByAny 3 (some .int) 1 21 [.ref 60] M (some (.int (g_X0_knownByAny M))) M := by
  refine mz_in0 (by decide +kernel) (Nat.le_of_ble_eq_true rfl) (fun Γ C E => ?_)
  have E' := (⟨_, _, _, E⟩ : ∃ Qc mc ms, mz_E Γ Qc mc ms (mz_A ρ mz_lay1))
  refine mz_go FLX0 KLX0 C [(0, .iconst 0), (1, .istore_n 1), (2, .iconst 0), (3, .istore_n 2)] (by decide +kernel) (pc' := 4) (L' := [(2, .int 0), (1, .int 0), (0, .ref 60)]) (st' := []) rfl ?_
  refine mz_sub (L' := [(0, .ref 60), (1, .int 0), (2, .int 0)]) (by simp) ?_
  refine mz_loop (M 60 0) (g_X0_knownByAny_1 M) (fun (i : Int32) (a : Int32) => mz_W Γ ρ 3 0 0 (mz_H D vwCl cA ρ mz_lay1 M) 4 [(0, .ref 60), (1, .int a), (2, .int i)] []) 0 (fun i2 a3 hi4 hx5 hb6 => ?_)
  refine mz_go FLX0 KLX0 C [(4, .iload_n 2), (5, .aload_n 0), (6, .getfield 47)] (by decide +kernel) (pc' := 9) (L' := [(0, .ref 60), (1, .int a3), (2, .int i2)]) (st' := [.int (M 60 0), .int i2]) rfl ?_
  refine mz_ige (off := 20) (tgt := 29) C (by decide +kernel) (by decide) (fun h1 => ?_) (fun h1 => ?_)
  · have e10 := hx5 h1
    subst e10
    refine mz_sub (L' := [(0, .ref 60), (1, .int (mz_fr (M 60 0) (g_X0_knownByAny_1 M) 0))]) (by simp) ?_
    refine mz_go FLX0 KLX0 C [(29, .iload_n 1)] (by decide +kernel) (pc' := 30) (L' := [(0, .ref 60), (1, .int (mz_fr (M 60 0) (g_X0_knownByAny_1 M) 0))]) (st' := [.int (mz_fr (M 60 0) (g_X0_knownByAny_1 M) 0)]) rfl ?_
    exact mz_iret C E (by decide +kernel) (rfl) (rfl)
  · refine mz_go FLX0 KLX0 C [(12, .iload_n 1), (13, .aload_n 0), (14, .getfield 26), (17, .iload_n 2)] (by decide +kernel) (pc' := 18) (L' := [(0, .ref 60), (1, .int a3), (2, .int i2)]) (st' := [.int i2, .ref 67, .int a3]) rfl ?_
    refine mz_callV (As := [.int i2]) (rest := [.int a3]) C E' (f_Row_get l D cA ρ hI (r := 67) (a := 68) (n := 12) rfl rfl (by decide) M i2) hy_X6_get wl_X0_68 rfl rfl rfl ⟨Nat.le_of_ble_eq_true rfl, Nat.le_of_ble_eq_true rfl⟩ ⟨Nat.le_refl _, Nat.le_refl _⟩ (Nat.le_of_ble_eq_true rfl) (by decide +kernel) ?_ rfl
    refine mz_go FLX0 KLX0 C [(21, .ior), (22, .istore_n 1), (23, .iinc 2 1), (26, .goto (-22))] (by decide +kernel) (pc' := 4) (L' := [(2, .int (i2 + 1)), (1, .int (a3 ||| (mz_rg 12 (M 68) i2))), (0, .ref 60)]) (st' := []) rfl ?_
    have hb11 := hb6 h1
    rw [show g_X0_knownByAny_1 M i2 a3 = a3 ||| (mz_rg 12 (M 68) i2) from rfl] at hb11
    exact mz_sub (by simp) hb11
end
section
def g_X4_addRoom (M : mz_Mem) (q : Int32) : Int32 × mz_Mem := ((M 1 0), (mz_s (mz_s (mz_s (mz_s M 1 (upd (M 1) 0 ((M 1 0) + 1))) 3 (mz_rs 8 ((mz_s M 1 (upd (M 1) 0 ((M 1 0) + 1))) 3) (M 1 0) q)) 11 (mz_gs 64 ((mz_s (mz_s M 1 (upd (M 1) 0 ((M 1 0) + 1))) 3 (mz_rs 8 ((mz_s M 1 (upd (M 1) 0 ((M 1 0) + 1))) 3) (M 1 0) q)) 9 0) ((mz_s (mz_s M 1 (upd (M 1) 0 ((M 1 0) + 1))) 3 (mz_rs 8 ((mz_s M 1 (upd (M 1) 0 ((M 1 0) + 1))) 3) (M 1 0) q)) 11) (M 1 0) (M 1 0) 0)) 14 (mz_gs 64 ((mz_s (mz_s (mz_s M 1 (upd (M 1) 0 ((M 1 0) + 1))) 3 (mz_rs 8 ((mz_s M 1 (upd (M 1) 0 ((M 1 0) + 1))) 3) (M 1 0) q)) 11 (mz_gs 64 ((mz_s (mz_s M 1 (upd (M 1) 0 ((M 1 0) + 1))) 3 (mz_rs 8 ((mz_s M 1 (upd (M 1) 0 ((M 1 0) + 1))) 3) (M 1 0) q)) 9 0) ((mz_s (mz_s M 1 (upd (M 1) 0 ((M 1 0) + 1))) 3 (mz_rs 8 ((mz_s M 1 (upd (M 1) 0 ((M 1 0) + 1))) 3) (M 1 0) q)) 11) (M 1 0) (M 1 0) 0)) 12 0) ((mz_s (mz_s (mz_s M 1 (upd (M 1) 0 ((M 1 0) + 1))) 3 (mz_rs 8 ((mz_s M 1 (upd (M 1) 0 ((M 1 0) + 1))) 3) (M 1 0) q)) 11 (mz_gs 64 ((mz_s (mz_s M 1 (upd (M 1) 0 ((M 1 0) + 1))) 3 (mz_rs 8 ((mz_s M 1 (upd (M 1) 0 ((M 1 0) + 1))) 3) (M 1 0) q)) 9 0) ((mz_s (mz_s M 1 (upd (M 1) 0 ((M 1 0) + 1))) 3 (mz_rs 8 ((mz_s M 1 (upd (M 1) 0 ((M 1 0) + 1))) 3) (M 1 0) q)) 11) (M 1 0) (M 1 0) 0)) 14) (M 1 0) (M 1 0) (M 1 0))))
set_option maxHeartbeats 4000000 in
theorem f_X4_addRoom (l : Launch) (D : va_G) (cA : ClassId) (ρ : Nat → Nat) (hI : mz_I ρ mz_lay1) (M : mz_Mem) (q : Int32) : mz_M l D vwCl cA ρ mz_lay1 yX4_addRoom cX4_addRoom 3 (some .int) 2 45 [.ref 1, .int q] M (some (.int (g_X4_addRoom M q).1)) (g_X4_addRoom M q).2 := by
  refine mz_in0 (by decide +kernel) (Nat.le_of_ble_eq_true rfl) (fun Γ C E => ?_)
  have E' := (⟨_, _, _, E⟩ : ∃ Qc mc ms, mz_E Γ Qc mc ms (mz_A ρ mz_lay1))
  refine mz_go FLX4 KLX4 C [(0, .aload_n 0), (1, .getfield 41), (4, .istore_n 2), (5, .aload_n 0), (6, .dup), (7, .getfield 41), (10, .iconst 1), (11, .iadd)] (by decide +kernel) (pc' := 12) (L' := [(2, .int (M 1 0)), (0, .ref 1), (1, .int q)]) (st' := [.int ((M 1 0) + 1), .ref 1]) rfl ?_
  refine mz_put (id := 1) (ci := 4) (j := 0) (T := TX4) (N := 7) C E' hI rfl rfl rfl (by decide) iu_X4 tyX4 tyX4_ok nmX4 wf_X4_41 rfl (by decide +kernel) (by decide +kernel) ?_
  refine mz_go FLX4 KLX4 C [(15, .aload_n 0), (16, .getfield 14), (19, .iload_n 2), (20, .iload_n 1)] (by decide +kernel) (pc' := 21) (L' := [(2, .int (M 1 0)), (0, .ref 1), (1, .int q)]) (st' := [.int q, .int (M 1 0), .ref 2]) rfl ?_
  refine mz_callV (As := [.int (M 1 0), .int q]) (rest := []) C E' (f_Row_set l D cA ρ hI (r := 2) (a := 3) (n := 8) rfl rfl (by decide) (mz_s M 1 (upd (M 1) 0 ((M 1 0) + 1))) (M 1 0) q) hy_X6_set wl_X4_45 rfl rfl rfl ⟨Nat.le_of_ble_eq_true rfl, Nat.le_of_ble_eq_true rfl⟩ ⟨Nat.le_refl _, Nat.le_refl _⟩ (Nat.le_of_ble_eq_true rfl) (by decide +kernel) ?_ rfl
  refine mz_go FLX4 KLX4 C [(24, .aload_n 0), (25, .getfield 32), (28, .iload_n 2), (29, .iload_n 2), (30, .iconst 0)] (by decide +kernel) (pc' := 31) (L' := [(2, .int (M 1 0)), (0, .ref 1), (1, .int q)]) (st' := [.int 0, .int (M 1 0), .int (M 1 0), .ref 9]) rfl ?_
  refine mz_callV (As := [.int (M 1 0), .int (M 1 0), .int 0]) (rest := []) C E' (f_Grid_set l D cA ρ hI (g := 9) (r := 10) (a := 11) (n := 64) rfl rfl rfl (by decide) (mz_s (mz_s M 1 (upd (M 1) 0 ((M 1 0) + 1))) 3 (mz_rs 8 ((mz_s M 1 (upd (M 1) 0 ((M 1 0) + 1))) 3) (M 1 0) q)) (M 1 0) (M 1 0) 0) hy_X3_set wl_X4_48 rfl rfl rfl ⟨Nat.le_of_ble_eq_true rfl, Nat.le_of_ble_eq_true rfl⟩ ⟨Nat.le_refl _, Nat.le_refl _⟩ (Nat.le_of_ble_eq_true rfl) (by decide +kernel) ?_ rfl
  refine mz_go FLX4 KLX4 C [(34, .aload_n 0), (35, .getfield 35), (38, .iload_n 2), (39, .iload_n 2), (40, .iload_n 2)] (by decide +kernel) (pc' := 41) (L' := [(2, .int (M 1 0)), (0, .ref 1), (1, .int q)]) (st' := [.int (M 1 0), .int (M 1 0), .int (M 1 0), .ref 12]) rfl ?_
  refine mz_callV (As := [.int (M 1 0), .int (M 1 0), .int (M 1 0)]) (rest := []) C E' (f_Grid_set l D cA ρ hI (g := 12) (r := 13) (a := 14) (n := 64) rfl rfl rfl (by decide) (mz_s (mz_s (mz_s M 1 (upd (M 1) 0 ((M 1 0) + 1))) 3 (mz_rs 8 ((mz_s M 1 (upd (M 1) 0 ((M 1 0) + 1))) 3) (M 1 0) q)) 11 (mz_gs 64 ((mz_s (mz_s M 1 (upd (M 1) 0 ((M 1 0) + 1))) 3 (mz_rs 8 ((mz_s M 1 (upd (M 1) 0 ((M 1 0) + 1))) 3) (M 1 0) q)) 9 0) ((mz_s (mz_s M 1 (upd (M 1) 0 ((M 1 0) + 1))) 3 (mz_rs 8 ((mz_s M 1 (upd (M 1) 0 ((M 1 0) + 1))) 3) (M 1 0) q)) 11) (M 1 0) (M 1 0) 0)) (M 1 0) (M 1 0) (M 1 0)) hy_X3_set wl_X4_48 rfl rfl rfl ⟨Nat.le_of_ble_eq_true rfl, Nat.le_of_ble_eq_true rfl⟩ ⟨Nat.le_refl _, Nat.le_refl _⟩ (Nat.le_of_ble_eq_true rfl) (by decide +kernel) ?_ rfl
  refine mz_go FLX4 KLX4 C [(44, .iload_n 2)] (by decide +kernel) (pc' := 45) (L' := [(2, .int (M 1 0)), (0, .ref 1), (1, .int q)]) (st' := [.int (M 1 0)]) rfl ?_
  exact mz_iret C E (by decide +kernel) (rfl) (rfl)
def g_X4_findNext_1 (M : mz_Mem) (f : Int32) (t : Int32) (i7 : Int32) : Bool := if (mz_gg 64 (M 6 0) (M 8) f i7) = (-1) then false else if (mz_gg 64 (M 9 0) (M 11) i7 t) = ((mz_gg 64 (M 9 0) (M 11) f t) - 1) then true else false
def g_X4_findNext (M : mz_Mem) (f : Int32) (t : Int32) : Int32 := if 0 < (mz_gg 64 (M 9 0) (M 11) f t) then (match mz_find (M 1 0) (g_X4_findNext_1 M f t) with | some i7 => i7 | none => (-1)) else if (mz_gg 64 (M 9 0) (M 11) f t) = 0 then f else (-1)
set_option maxHeartbeats 4000000 in
theorem f_X4_findNext (l : Launch) (D : va_G) (cA : ClassId) (ρ : Nat → Nat) (hI : mz_I ρ mz_lay1) (M : mz_Mem) (f : Int32) (t : Int32) : mz_M l D vwCl cA ρ mz_lay1 yX4_findNext cX4_findNext 5 (some .int) 2 43 [.ref 1, .int f, .int t] M (some (.int (g_X4_findNext M f t))) M := by
  refine mz_in0 (by decide +kernel) (Nat.le_of_ble_eq_true rfl) (fun Γ C E => ?_)
  have E' := (⟨_, _, _, E⟩ : ∃ Qc mc ms, mz_E Γ Qc mc ms (mz_A ρ mz_lay1))
  refine mz_go FLX4 KLX4 C [(0, .aload_n 0), (1, .getfield 32), (4, .iload_n 1), (5, .iload_n 2)] (by decide +kernel) (pc' := 6) (L' := [(0, .ref 1), (1, .int f), (2, .int t)]) (st' := [.int t, .int f, .ref 9]) rfl ?_
  refine mz_callV (As := [.int f, .int t]) (rest := []) C E' (f_Grid_get l D cA ρ hI (g := 9) (r := 10) (a := 11) (n := 64) rfl rfl rfl (by decide) M f t) hy_X3_get wl_X4_61 rfl rfl rfl ⟨Nat.le_of_ble_eq_true rfl, Nat.le_of_ble_eq_true rfl⟩ ⟨Nat.le_refl _, Nat.le_refl _⟩ (Nat.le_of_ble_eq_true rfl) (by decide +kernel) ?_ rfl
  refine mz_go FLX4 KLX4 C [(9, .istore_n 3), (10, .iload_n 3)] (by decide +kernel) (pc' := 11) (L' := [(3, .int (mz_gg 64 (M 9 0) (M 11) f t)), (0, .ref 1), (1, .int f), (2, .int t)]) (st' := [.int (mz_gg 64 (M 9 0) (M 11) f t)]) rfl ?_
  refine mz_zgt (off := 13) (tgt := 24) C (by decide +kernel) (by decide) (fun h1 => ?_) (fun h1 => ?_)
  · refine mz_go FLX4 KLX4 C [(24, .iconst 0), (25, .istore 4)] (by decide +kernel) (pc' := 27) (L' := [(4, .int 0), (3, .int (mz_gg 64 (M 9 0) (M 11) f t)), (0, .ref 1), (1, .int f), (2, .int t)]) (st' := []) rfl ?_
    refine mz_sub (L' := [(0, .ref 1), (1, .int f), (2, .int t), (3, .int (mz_gg 64 (M 9 0) (M 11) f t)), (4, .int 0)]) (by simp) ?_
    refine mz_loopf (M 1 0) (g_X4_findNext_1 M f t) (fun i => mz_W Γ ρ 5 0 0 (mz_H D vwCl cA ρ mz_lay1 M) 27 [(0, .ref 1), (1, .int f), (2, .int t), (3, .int (mz_gg 64 (M 9 0) (M 11) f t)), (4, .int i)] []) (fun i7 hi6 hx4 hp5 ih3 => ?_)
    refine mz_go FLX4 KLX4 C [(27, .iload 4), (29, .aload_n 0), (30, .getfield 41)] (by decide +kernel) (pc' := 33) (L' := [(0, .ref 1), (1, .int f), (2, .int t), (3, .int (mz_gg 64 (M 9 0) (M 11) f t)), (4, .int i7)]) (st' := [.int (M 1 0), .int i7]) rfl ?_
    refine mz_ige (off := 42) (tgt := 75) C (by decide +kernel) (by decide) (fun h2 => ?_) (fun h2 => ?_)
    · have hf8 := hx4 h2
      refine mz_sub (L' := [(0, .ref 1), (1, .int f), (2, .int t), (3, .int (mz_gg 64 (M 9 0) (M 11) f t))]) (by simp) ?_
      refine mz_go FLX4 KLX4 C [(75, .iconst (-1))] (by decide +kernel) (pc' := 76) (L' := [(0, .ref 1), (1, .int f), (2, .int t), (3, .int (mz_gg 64 (M 9 0) (M 11) f t))]) (st' := [.int (-1)]) rfl ?_
      exact mz_iret C E (by decide +kernel) (by unfold g_X4_findNext; rw [if_pos h1, hf8]; try rfl) (rfl)
    · refine mz_go FLX4 KLX4 C [(36, .aload_n 0), (37, .getfield 28), (40, .iload_n 1), (41, .iload 4)] (by decide +kernel) (pc' := 43) (L' := [(0, .ref 1), (1, .int f), (2, .int t), (3, .int (mz_gg 64 (M 9 0) (M 11) f t)), (4, .int i7)]) (st' := [.int i7, .int f, .ref 6]) rfl ?_
      refine mz_callV (As := [.int f, .int i7]) (rest := []) C E' (f_Grid_get l D cA ρ hI (g := 6) (r := 7) (a := 8) (n := 64) rfl rfl rfl (by decide) M f i7) hy_X3_get wl_X4_61 rfl rfl rfl ⟨Nat.le_of_ble_eq_true rfl, Nat.le_of_ble_eq_true rfl⟩ ⟨Nat.le_refl _, Nat.le_refl _⟩ (Nat.le_of_ble_eq_true rfl) (by decide +kernel) ?_ rfl
      refine mz_go FLX4 KLX4 C [(46, .iconst (-1))] (by decide +kernel) (pc' := 47) (L' := [(0, .ref 1), (1, .int f), (2, .int t), (3, .int (mz_gg 64 (M 9 0) (M 11) f t)), (4, .int i7)]) (st' := [.int (-1), .int (mz_gg 64 (M 6 0) (M 8) f i7)]) rfl ?_
      refine mz_ieq (off := 22) (tgt := 69) C (by decide +kernel) (by decide) (fun h9 => ?_) (fun h9 => ?_)
      · refine mz_go FLX4 KLX4 C [(69, .iinc 4 1), (72, .goto (-45))] (by decide +kernel) (pc' := 27) (L' := [(4, .int (i7 + 1)), (0, .ref 1), (1, .int f), (2, .int t), (3, .int (mz_gg 64 (M 9 0) (M 11) f t))]) (st' := []) rfl ?_
        exact mz_sub (by simp) (ih3 h2 (by unfold g_X4_findNext_1; rw [if_pos h9]))
      · refine mz_go FLX4 KLX4 C [(50, .aload_n 0), (51, .getfield 32), (54, .iload 4), (56, .iload_n 2)] (by decide +kernel) (pc' := 57) (L' := [(0, .ref 1), (1, .int f), (2, .int t), (3, .int (mz_gg 64 (M 9 0) (M 11) f t)), (4, .int i7)]) (st' := [.int t, .int i7, .ref 9]) rfl ?_
        refine mz_callV (As := [.int i7, .int t]) (rest := []) C E' (f_Grid_get l D cA ρ hI (g := 9) (r := 10) (a := 11) (n := 64) rfl rfl rfl (by decide) M i7 t) hy_X3_get wl_X4_61 rfl rfl rfl ⟨Nat.le_of_ble_eq_true rfl, Nat.le_of_ble_eq_true rfl⟩ ⟨Nat.le_refl _, Nat.le_refl _⟩ (Nat.le_of_ble_eq_true rfl) (by decide +kernel) ?_ rfl
        refine mz_go FLX4 KLX4 C [(60, .iload_n 3), (61, .iconst 1), (62, .isub)] (by decide +kernel) (pc' := 63) (L' := [(0, .ref 1), (1, .int f), (2, .int t), (3, .int (mz_gg 64 (M 9 0) (M 11) f t)), (4, .int i7)]) (st' := [.int ((mz_gg 64 (M 9 0) (M 11) f t) - 1), .int (mz_gg 64 (M 9 0) (M 11) i7 t)]) rfl ?_
        refine mz_ine (off := 6) (tgt := 69) C (by decide +kernel) (by decide) (fun h10 => ?_) (fun h10 => ?_)
        · refine mz_go FLX4 KLX4 C [(69, .iinc 4 1), (72, .goto (-45))] (by decide +kernel) (pc' := 27) (L' := [(4, .int (i7 + 1)), (0, .ref 1), (1, .int f), (2, .int t), (3, .int (mz_gg 64 (M 9 0) (M 11) f t))]) (st' := []) rfl ?_
          exact mz_sub (by simp) (ih3 h2 (by unfold g_X4_findNext_1; rw [if_neg h9, if_neg h10]))
        · refine mz_go FLX4 KLX4 C [(66, .iload 4)] (by decide +kernel) (pc' := 68) (L' := [(0, .ref 1), (1, .int f), (2, .int t), (3, .int (mz_gg 64 (M 9 0) (M 11) f t)), (4, .int i7)]) (st' := [.int i7]) rfl ?_
          have hf11 := hp5 h2 (by unfold g_X4_findNext_1; rw [if_neg h9, if_pos h10])
          exact mz_iret C E (by decide +kernel) (by unfold g_X4_findNext; rw [if_pos h1, hf11]; try rfl) (rfl)
  · refine mz_go FLX4 KLX4 C [(14, .iload_n 3)] (by decide +kernel) (pc' := 15) (L' := [(3, .int (mz_gg 64 (M 9 0) (M 11) f t)), (0, .ref 1), (1, .int f), (2, .int t)]) (st' := [.int (mz_gg 64 (M 9 0) (M 11) f t)]) rfl ?_
    refine mz_zne (off := 7) (tgt := 22) C (by decide +kernel) (by decide) (fun h12 => ?_) (fun h12 => ?_)
    · refine mz_go FLX4 KLX4 C [(22, .iconst (-1))] (by decide +kernel) (pc' := 23) (L' := [(3, .int (mz_gg 64 (M 9 0) (M 11) f t)), (0, .ref 1), (1, .int f), (2, .int t)]) (st' := [.int (-1)]) rfl ?_
      exact mz_iret C E (by decide +kernel) (by unfold g_X4_findNext; rw [if_neg h1, if_neg h12]; try rfl) (rfl)
    · refine mz_go FLX4 KLX4 C [(18, .iload_n 1), (19, .goto 4)] (by decide +kernel) (pc' := 23) (L' := [(3, .int (mz_gg 64 (M 9 0) (M 11) f t)), (0, .ref 1), (1, .int f), (2, .int t)]) (st' := [.int f]) rfl ?_
      exact mz_iret C E (by decide +kernel) (by unfold g_X4_findNext; rw [if_neg h1, if_pos h12]; try rfl) (rfl)
def g_X4_shortenWay (M : mz_Mem) (f : Int32) (t : Int32) (d : Int32) (b : Int32) : mz_Mem := if d = (-1) then M else if b = (-1) then M else if (mz_gg 64 (M 9 0) (M 11) f t) = (-1) then (mz_s M 11 (mz_gs 64 (M 9 0) (M 11) f t ((d + 1) + b))) else if (mz_gg 64 (M 9 0) (M 11) f t) ≤ ((d + 1) + b) then M else (mz_s M 11 (mz_gs 64 (M 9 0) (M 11) f t ((d + 1) + b)))
theorem g_X4_shortenWay_hs (M : mz_Mem) (f : Int32) (t : Int32) (d : Int32) (b : Int32) : mz_hh M (g_X4_shortenWay M f t d b) := by
  unfold g_X4_shortenWay
  by_cases h1 : d = (-1)
  · rw [if_pos h1]
    exact mz_hh_rf
  · rw [if_neg h1]
    by_cases h2 : b = (-1)
    · rw [if_pos h2]
      exact mz_hh_rf
    · rw [if_neg h2]
      by_cases h3 : (mz_gg 64 (M 9 0) (M 11) f t) = (-1)
      · rw [if_pos h3]
        exact mz_hh_s (by decide)
      · rw [if_neg h3]
        by_cases h4 : (mz_gg 64 (M 9 0) (M 11) f t) ≤ ((d + 1) + b)
        · rw [if_pos h4]
          exact mz_hh_rf
        · rw [if_neg h4]
          exact mz_hh_s (by decide)

set_option maxHeartbeats 4000000 in
theorem f_X4_shortenWay (l : Launch) (D : va_G) (cA : ClassId) (ρ : Nat → Nat) (hI : mz_I ρ mz_lay1) (M : mz_Mem) (f : Int32) (t : Int32) (d : Int32) (b : Int32) : mz_M l D vwCl cA ρ mz_lay1 yX4_shortenWay cX4_shortenWay 7 none 2 45 [.ref 1, .int f, .int t, .int d, .int b] M none (g_X4_shortenWay M f t d b) := by
  refine mz_in0 (by decide +kernel) (Nat.le_of_ble_eq_true rfl) (fun Γ C E => ?_)
  have E' := (⟨_, _, _, E⟩ : ∃ Qc mc ms, mz_E Γ Qc mc ms (mz_A ρ mz_lay1))
  refine mz_go FLX4 KLX4 C [(0, .iload_n 3), (1, .iconst (-1))] (by decide +kernel) (pc' := 2) (L' := [(0, .ref 1), (1, .int f), (2, .int t), (3, .int d), (4, .int b)]) (st' := [.int (-1), .int d]) rfl ?_
  refine mz_ieq (off := 52) (tgt := 54) C (by decide +kernel) (by decide) (fun h1 => ?_) (fun h1 => ?_)
  · exact mz_vret C E (by decide +kernel) (by unfold g_X4_shortenWay; rw [if_pos h1]; try rfl)
  · refine mz_go FLX4 KLX4 C [(5, .iload 4), (7, .iconst (-1))] (by decide +kernel) (pc' := 8) (L' := [(0, .ref 1), (1, .int f), (2, .int t), (3, .int d), (4, .int b)]) (st' := [.int (-1), .int b]) rfl ?_
    refine mz_ieq (off := 46) (tgt := 54) C (by decide +kernel) (by decide) (fun h2 => ?_) (fun h2 => ?_)
    · exact mz_vret C E (by decide +kernel) (by unfold g_X4_shortenWay; rw [if_neg h1, if_pos h2]; try rfl)
    · refine mz_go FLX4 KLX4 C [(11, .iload_n 3), (12, .iconst 1), (13, .iadd), (14, .iload 4), (16, .iadd), (17, .istore 5), (19, .aload_n 0), (20, .getfield 32), (23, .iload_n 1), (24, .iload_n 2)] (by decide +kernel) (pc' := 25) (L' := [(5, .int ((d + 1) + b)), (0, .ref 1), (1, .int f), (2, .int t), (3, .int d), (4, .int b)]) (st' := [.int t, .int f, .ref 9]) rfl ?_
      refine mz_callV (As := [.int f, .int t]) (rest := []) C E' (f_Grid_get l D cA ρ hI (g := 9) (r := 10) (a := 11) (n := 64) rfl rfl rfl (by decide) M f t) hy_X3_get wl_X4_61 rfl rfl rfl ⟨Nat.le_of_ble_eq_true rfl, Nat.le_of_ble_eq_true rfl⟩ ⟨Nat.le_refl _, Nat.le_refl _⟩ (Nat.le_of_ble_eq_true rfl) (by decide +kernel) ?_ rfl
      refine mz_go FLX4 KLX4 C [(28, .istore 6), (30, .iload 6), (32, .iconst (-1))] (by decide +kernel) (pc' := 33) (L' := [(6, .int (mz_gg 64 (M 9 0) (M 11) f t)), (5, .int ((d + 1) + b)), (0, .ref 1), (1, .int f), (2, .int t), (3, .int d), (4, .int b)]) (st' := [.int (-1), .int (mz_gg 64 (M 9 0) (M 11) f t)]) rfl ?_
      refine mz_ieq (off := 10) (tgt := 43) C (by decide +kernel) (by decide) (fun h3 => ?_) (fun h3 => ?_)
      · refine mz_go FLX4 KLX4 C [(43, .aload_n 0), (44, .getfield 32), (47, .iload_n 1), (48, .iload_n 2), (49, .iload 5)] (by decide +kernel) (pc' := 51) (L' := [(6, .int (mz_gg 64 (M 9 0) (M 11) f t)), (5, .int ((d + 1) + b)), (0, .ref 1), (1, .int f), (2, .int t), (3, .int d), (4, .int b)]) (st' := [.int ((d + 1) + b), .int t, .int f, .ref 9]) rfl ?_
        refine mz_callV (As := [.int f, .int t, .int ((d + 1) + b)]) (rest := []) C E' (f_Grid_set l D cA ρ hI (g := 9) (r := 10) (a := 11) (n := 64) rfl rfl rfl (by decide) M f t ((d + 1) + b)) hy_X3_set wl_X4_48 rfl rfl rfl ⟨Nat.le_of_ble_eq_true rfl, Nat.le_of_ble_eq_true rfl⟩ ⟨Nat.le_refl _, Nat.le_refl _⟩ (Nat.le_of_ble_eq_true rfl) (by decide +kernel) ?_ rfl
        exact mz_vret C E (by decide +kernel) (by unfold g_X4_shortenWay; rw [if_neg h1, if_neg h2, if_pos h3]; try rfl)
      · refine mz_go FLX4 KLX4 C [(36, .iload 5), (38, .iload 6)] (by decide +kernel) (pc' := 40) (L' := [(6, .int (mz_gg 64 (M 9 0) (M 11) f t)), (5, .int ((d + 1) + b)), (0, .ref 1), (1, .int f), (2, .int t), (3, .int d), (4, .int b)]) (st' := [.int (mz_gg 64 (M 9 0) (M 11) f t), .int ((d + 1) + b)]) rfl ?_
        refine mz_ige (off := 14) (tgt := 54) C (by decide +kernel) (by decide) (fun h4 => ?_) (fun h4 => ?_)
        · exact mz_vret C E (by decide +kernel) (by unfold g_X4_shortenWay; rw [if_neg h1, if_neg h2, if_neg h3, if_pos h4]; try rfl)
        · refine mz_go FLX4 KLX4 C [(43, .aload_n 0), (44, .getfield 32), (47, .iload_n 1), (48, .iload_n 2), (49, .iload 5)] (by decide +kernel) (pc' := 51) (L' := [(6, .int (mz_gg 64 (M 9 0) (M 11) f t)), (5, .int ((d + 1) + b)), (0, .ref 1), (1, .int f), (2, .int t), (3, .int d), (4, .int b)]) (st' := [.int ((d + 1) + b), .int t, .int f, .ref 9]) rfl ?_
          refine mz_callV (As := [.int f, .int t, .int ((d + 1) + b)]) (rest := []) C E' (f_Grid_set l D cA ρ hI (g := 9) (r := 10) (a := 11) (n := 64) rfl rfl rfl (by decide) M f t ((d + 1) + b)) hy_X3_set wl_X4_48 rfl rfl rfl ⟨Nat.le_of_ble_eq_true rfl, Nat.le_of_ble_eq_true rfl⟩ ⟨Nat.le_refl _, Nat.le_refl _⟩ (Nat.le_of_ble_eq_true rfl) (by decide +kernel) ?_ rfl
          exact mz_vret C E (by decide +kernel) (by unfold g_X4_shortenWay; rw [if_neg h1, if_neg h2, if_neg h3, if_neg h4]; try rfl)
def g_X4_shortenWays_2 (M : mz_Mem) (one : Int32) (oth : Int32) (i2 : Int32) (a3 : mz_Mem) (i12 : Int32) (a13 : mz_Mem) : mz_Mem := (g_X4_shortenWay (g_X4_shortenWay a13 i2 i12 (mz_gg 64 (a13 9 0) (a13 11) i2 one) (mz_gg 64 (a13 9 0) (a13 11) oth i12)) i2 i12 (mz_gg 64 ((g_X4_shortenWay a13 i2 i12 (mz_gg 64 (a13 9 0) (a13 11) i2 one) (mz_gg 64 (a13 9 0) (a13 11) oth i12)) 9 0) ((g_X4_shortenWay a13 i2 i12 (mz_gg 64 (a13 9 0) (a13 11) i2 one) (mz_gg 64 (a13 9 0) (a13 11) oth i12)) 11) i2 oth) (mz_gg 64 ((g_X4_shortenWay a13 i2 i12 (mz_gg 64 (a13 9 0) (a13 11) i2 one) (mz_gg 64 (a13 9 0) (a13 11) oth i12)) 9 0) ((g_X4_shortenWay a13 i2 i12 (mz_gg 64 (a13 9 0) (a13 11) i2 one) (mz_gg 64 (a13 9 0) (a13 11) oth i12)) 11) one i12))
theorem g_X4_shortenWays_2_hs (M : mz_Mem) (one : Int32) (oth : Int32) (i2 : Int32) (a3 : mz_Mem) (i12 : Int32) (a13 : mz_Mem) : mz_hh a13 (g_X4_shortenWays_2 M one oth i2 a3 i12 a13) := by
  unfold g_X4_shortenWays_2
  exact (g_X4_shortenWay_hs a13 i2 i12 (mz_gg 64 (a13 9 0) (a13 11) i2 one) (mz_gg 64 (a13 9 0) (a13 11) oth i12)).trans (g_X4_shortenWay_hs (g_X4_shortenWay a13 i2 i12 (mz_gg 64 (a13 9 0) (a13 11) i2 one) (mz_gg 64 (a13 9 0) (a13 11) oth i12)) i2 i12 (mz_gg 64 ((g_X4_shortenWay a13 i2 i12 (mz_gg 64 (a13 9 0) (a13 11) i2 one) (mz_gg 64 (a13 9 0) (a13 11) oth i12)) 9 0) ((g_X4_shortenWay a13 i2 i12 (mz_gg 64 (a13 9 0) (a13 11) i2 one) (mz_gg 64 (a13 9 0) (a13 11) oth i12)) 11) i2 oth) (mz_gg 64 ((g_X4_shortenWay a13 i2 i12 (mz_gg 64 (a13 9 0) (a13 11) i2 one) (mz_gg 64 (a13 9 0) (a13 11) oth i12)) 9 0) ((g_X4_shortenWay a13 i2 i12 (mz_gg 64 (a13 9 0) (a13 11) i2 one) (mz_gg 64 (a13 9 0) (a13 11) oth i12)) 11) one i12))

def g_X4_shortenWays_1 (M : mz_Mem) (one : Int32) (oth : Int32) (i2 : Int32) (a3 : mz_Mem) : mz_Mem := (mz_fr (a3 1 0) (g_X4_shortenWays_2 M one oth i2 a3) a3)
theorem g_X4_shortenWays_1_hs (M : mz_Mem) (one : Int32) (oth : Int32) (i2 : Int32) (a3 : mz_Mem) : mz_hh a3 (g_X4_shortenWays_1 M one oth i2 a3) := by
  unfold g_X4_shortenWays_1
  exact mz_hh_frp (fun (a : mz_Mem) => a) (fun i a => g_X4_shortenWays_2_hs M one oth i2 a3 i a)

def g_X4_shortenWays (M : mz_Mem) (one : Int32) (oth : Int32) : mz_Mem := (mz_fr (M 1 0) (g_X4_shortenWays_1 M one oth) M)
theorem g_X4_shortenWays_hs (M : mz_Mem) (one : Int32) (oth : Int32) : mz_hh M (g_X4_shortenWays M one oth) := by
  unfold g_X4_shortenWays
  exact mz_hh_frp (fun (a : mz_Mem) => a) (fun i a => g_X4_shortenWays_1_hs M one oth i a)

set_option maxHeartbeats 4000000 in
theorem f_X4_shortenWays (l : Launch) (D : va_G) (cA : ClassId) (ρ : Nat → Nat) (hI : mz_I ρ mz_lay1) (M : mz_Mem) (one : Int32) (oth : Int32) : mz_M l D vwCl cA ρ mz_lay1 yX4_shortenWays cX4_shortenWays 5 none 3 71 [.ref 1, .int one, .int oth] M none (g_X4_shortenWays M one oth) := by
  refine mz_in0 (by decide +kernel) (Nat.le_of_ble_eq_true rfl) (fun Γ C E => ?_)
  have E' := (⟨_, _, _, E⟩ : ∃ Qc mc ms, mz_E Γ Qc mc ms (mz_A ρ mz_lay1))
  refine mz_go FLX4 KLX4 C [(0, .iconst 0), (1, .istore_n 3)] (by decide +kernel) (pc' := 2) (L' := [(3, .int 0), (0, .ref 1), (1, .int one), (2, .int oth)]) (st' := []) rfl ?_
  refine mz_sub (L' := [(0, .ref 1), (1, .int one), (2, .int oth), (3, .int 0)]) (by simp) ?_
  refine mz_loopI (M 1 0) (g_X4_shortenWays_1 M one oth) (fun (i : Int32) (a : mz_Mem) => mz_W Γ ρ 5 0 0 (mz_H D vwCl cA ρ mz_lay1 a) 2 [(0, .ref 1), (1, .int one), (2, .int oth), (3, .int i)] []) (fun (a : mz_Mem) => a 1 0 = M 1 0) M rfl (fun i a h => ?_) (fun i2 a3 hi4 hv7 hx5 hb6 => ?_)
  · exact (congrFun (g_X4_shortenWays_1_hs M one oth i a _ (by decide)) _).trans h
  have hv7 : a3 1 0 = M 1 0 := hv7
  refine mz_go FLX4 KLX4 C [(2, .iload_n 3), (3, .aload_n 0), (4, .getfield 41)] (by decide +kernel) (pc' := 7) (L' := [(0, .ref 1), (1, .int one), (2, .int oth), (3, .int i2)]) (st' := [.int (a3 1 0), .int i2]) rfl ?_
  refine mz_ige (off := 79) (tgt := 86) C (by decide +kernel) (by decide) (fun h1 => ?_) (fun h1 => ?_)
  · have e10 := hx5 (by rw [hv7] at h1; exact h1)
    subst e10
    refine mz_sub (L' := [(0, .ref 1), (1, .int one), (2, .int oth)]) (by simp) ?_
    exact mz_vret C E (by decide +kernel) (rfl)
  · refine mz_go FLX4 KLX4 C [(10, .iconst 0), (11, .istore 4)] (by decide +kernel) (pc' := 13) (L' := [(4, .int 0), (0, .ref 1), (1, .int one), (2, .int oth), (3, .int i2)]) (st' := []) rfl ?_
    refine mz_sub (L' := [(0, .ref 1), (1, .int one), (2, .int oth), (3, .int i2), (4, .int 0)]) (by simp) ?_
    refine mz_loopI (a3 1 0) (g_X4_shortenWays_2 M one oth i2 a3) (fun (i : Int32) (a : mz_Mem) => mz_W Γ ρ 5 0 0 (mz_H D vwCl cA ρ mz_lay1 a) 13 [(0, .ref 1), (1, .int one), (2, .int oth), (3, .int i2), (4, .int i)] []) (fun (a : mz_Mem) => a 1 0 = a3 1 0) a3 rfl (fun i a h => ?_) (fun i12 a13 hi14 hv17 hx15 hb16 => ?_)
    · exact (congrFun (g_X4_shortenWays_2_hs M one oth i2 a3 i a _ (by decide)) _).trans h
    have hv17 : a13 1 0 = a3 1 0 := hv17
    refine mz_go FLX4 KLX4 C [(13, .iload 4), (15, .aload_n 0), (16, .getfield 41)] (by decide +kernel) (pc' := 19) (L' := [(0, .ref 1), (1, .int one), (2, .int oth), (3, .int i2), (4, .int i12)]) (st' := [.int (a13 1 0), .int i12]) rfl ?_
    refine mz_ige (off := 61) (tgt := 80) C (by decide +kernel) (by decide) (fun h11 => ?_) (fun h11 => ?_)
    · have e20 := hx15 (by rw [hv17] at h11; exact h11)
      subst e20
      refine mz_sub (L' := [(0, .ref 1), (1, .int one), (2, .int oth), (3, .int i2)]) (by simp) ?_
      refine mz_go FLX4 KLX4 C [(80, .iinc 3 1), (83, .goto (-81))] (by decide +kernel) (pc' := 2) (L' := [(3, .int (i2 + 1)), (0, .ref 1), (1, .int one), (2, .int oth)]) (st' := []) rfl ?_
      have hb21 := hb6 (by rw [hv7] at h1; exact h1)
      rw [show g_X4_shortenWays_1 M one oth i2 a3 = (mz_fr (a3 1 0) (g_X4_shortenWays_2 M one oth i2 a3) a3) from rfl] at hb21
      exact mz_sub (by simp) hb21
    · refine mz_go FLX4 KLX4 C [(22, .aload_n 0), (23, .iload_n 3), (24, .iload 4), (26, .aload_n 0), (27, .getfield 32), (30, .iload_n 3), (31, .iload_n 1)] (by decide +kernel) (pc' := 32) (L' := [(0, .ref 1), (1, .int one), (2, .int oth), (3, .int i2), (4, .int i12)]) (st' := [.int one, .int i2, .ref 9, .int i12, .int i2, .ref 1]) rfl ?_
      refine mz_callV (As := [.int i2, .int one]) (rest := [.int i12, .int i2, .ref 1]) C E' (f_Grid_get l D cA ρ hI (g := 9) (r := 10) (a := 11) (n := 64) rfl rfl rfl (by decide) a13 i2 one) hy_X3_get wl_X4_61 rfl rfl rfl ⟨Nat.le_of_ble_eq_true rfl, Nat.le_of_ble_eq_true rfl⟩ ⟨Nat.le_refl _, Nat.le_refl _⟩ (Nat.le_of_ble_eq_true rfl) (by decide +kernel) ?_ rfl
      refine mz_go FLX4 KLX4 C [(35, .aload_n 0), (36, .getfield 32), (39, .iload_n 2), (40, .iload 4)] (by decide +kernel) (pc' := 42) (L' := [(0, .ref 1), (1, .int one), (2, .int oth), (3, .int i2), (4, .int i12)]) (st' := [.int i12, .int oth, .ref 9, .int (mz_gg 64 (a13 9 0) (a13 11) i2 one), .int i12, .int i2, .ref 1]) rfl ?_
      refine mz_callV (As := [.int oth, .int i12]) (rest := [.int (mz_gg 64 (a13 9 0) (a13 11) i2 one), .int i12, .int i2, .ref 1]) C E' (f_Grid_get l D cA ρ hI (g := 9) (r := 10) (a := 11) (n := 64) rfl rfl rfl (by decide) a13 oth i12) hy_X3_get wl_X4_61 rfl rfl rfl ⟨Nat.le_of_ble_eq_true rfl, Nat.le_of_ble_eq_true rfl⟩ ⟨Nat.le_refl _, Nat.le_refl _⟩ (Nat.le_of_ble_eq_true rfl) (by decide +kernel) ?_ rfl
      refine mz_callV (As := [.int i2, .int i12, .int (mz_gg 64 (a13 9 0) (a13 11) i2 one), .int (mz_gg 64 (a13 9 0) (a13 11) oth i12)]) (rest := []) C E' (f_X4_shortenWay l D cA ρ hI a13 i2 i12 (mz_gg 64 (a13 9 0) (a13 11) i2 one) (mz_gg 64 (a13 9 0) (a13 11) oth i12)) hy_X4_shortenWay wl_X4_64 rfl rfl rfl ⟨Nat.le_of_ble_eq_true rfl, Nat.le_of_ble_eq_true rfl⟩ ⟨Nat.le_refl _, Nat.le_refl _⟩ (Nat.le_of_ble_eq_true rfl) (by decide +kernel) ?_ rfl
      refine mz_go FLX4 KLX4 C [(48, .aload_n 0), (49, .iload_n 3), (50, .iload 4), (52, .aload_n 0), (53, .getfield 32), (56, .iload_n 3), (57, .iload_n 2)] (by decide +kernel) (pc' := 58) (L' := [(0, .ref 1), (1, .int one), (2, .int oth), (3, .int i2), (4, .int i12)]) (st' := [.int oth, .int i2, .ref 9, .int i12, .int i2, .ref 1]) rfl ?_
      refine mz_callV (As := [.int i2, .int oth]) (rest := [.int i12, .int i2, .ref 1]) C E' (f_Grid_get l D cA ρ hI (g := 9) (r := 10) (a := 11) (n := 64) rfl rfl rfl (by decide) (g_X4_shortenWay a13 i2 i12 (mz_gg 64 (a13 9 0) (a13 11) i2 one) (mz_gg 64 (a13 9 0) (a13 11) oth i12)) i2 oth) hy_X3_get wl_X4_61 rfl rfl rfl ⟨Nat.le_of_ble_eq_true rfl, Nat.le_of_ble_eq_true rfl⟩ ⟨Nat.le_refl _, Nat.le_refl _⟩ (Nat.le_of_ble_eq_true rfl) (by decide +kernel) ?_ rfl
      refine mz_go FLX4 KLX4 C [(61, .aload_n 0), (62, .getfield 32), (65, .iload_n 1), (66, .iload 4)] (by decide +kernel) (pc' := 68) (L' := [(0, .ref 1), (1, .int one), (2, .int oth), (3, .int i2), (4, .int i12)]) (st' := [.int i12, .int one, .ref 9, .int (mz_gg 64 ((g_X4_shortenWay a13 i2 i12 (mz_gg 64 (a13 9 0) (a13 11) i2 one) (mz_gg 64 (a13 9 0) (a13 11) oth i12)) 9 0) ((g_X4_shortenWay a13 i2 i12 (mz_gg 64 (a13 9 0) (a13 11) i2 one) (mz_gg 64 (a13 9 0) (a13 11) oth i12)) 11) i2 oth), .int i12, .int i2, .ref 1]) rfl ?_
      refine mz_callV (As := [.int one, .int i12]) (rest := [.int (mz_gg 64 ((g_X4_shortenWay a13 i2 i12 (mz_gg 64 (a13 9 0) (a13 11) i2 one) (mz_gg 64 (a13 9 0) (a13 11) oth i12)) 9 0) ((g_X4_shortenWay a13 i2 i12 (mz_gg 64 (a13 9 0) (a13 11) i2 one) (mz_gg 64 (a13 9 0) (a13 11) oth i12)) 11) i2 oth), .int i12, .int i2, .ref 1]) C E' (f_Grid_get l D cA ρ hI (g := 9) (r := 10) (a := 11) (n := 64) rfl rfl rfl (by decide) (g_X4_shortenWay a13 i2 i12 (mz_gg 64 (a13 9 0) (a13 11) i2 one) (mz_gg 64 (a13 9 0) (a13 11) oth i12)) one i12) hy_X3_get wl_X4_61 rfl rfl rfl ⟨Nat.le_of_ble_eq_true rfl, Nat.le_of_ble_eq_true rfl⟩ ⟨Nat.le_refl _, Nat.le_refl _⟩ (Nat.le_of_ble_eq_true rfl) (by decide +kernel) ?_ rfl
      refine mz_callV (As := [.int i2, .int i12, .int (mz_gg 64 ((g_X4_shortenWay a13 i2 i12 (mz_gg 64 (a13 9 0) (a13 11) i2 one) (mz_gg 64 (a13 9 0) (a13 11) oth i12)) 9 0) ((g_X4_shortenWay a13 i2 i12 (mz_gg 64 (a13 9 0) (a13 11) i2 one) (mz_gg 64 (a13 9 0) (a13 11) oth i12)) 11) i2 oth), .int (mz_gg 64 ((g_X4_shortenWay a13 i2 i12 (mz_gg 64 (a13 9 0) (a13 11) i2 one) (mz_gg 64 (a13 9 0) (a13 11) oth i12)) 9 0) ((g_X4_shortenWay a13 i2 i12 (mz_gg 64 (a13 9 0) (a13 11) i2 one) (mz_gg 64 (a13 9 0) (a13 11) oth i12)) 11) one i12)]) (rest := []) C E' (f_X4_shortenWay l D cA ρ hI (g_X4_shortenWay a13 i2 i12 (mz_gg 64 (a13 9 0) (a13 11) i2 one) (mz_gg 64 (a13 9 0) (a13 11) oth i12)) i2 i12 (mz_gg 64 ((g_X4_shortenWay a13 i2 i12 (mz_gg 64 (a13 9 0) (a13 11) i2 one) (mz_gg 64 (a13 9 0) (a13 11) oth i12)) 9 0) ((g_X4_shortenWay a13 i2 i12 (mz_gg 64 (a13 9 0) (a13 11) i2 one) (mz_gg 64 (a13 9 0) (a13 11) oth i12)) 11) i2 oth) (mz_gg 64 ((g_X4_shortenWay a13 i2 i12 (mz_gg 64 (a13 9 0) (a13 11) i2 one) (mz_gg 64 (a13 9 0) (a13 11) oth i12)) 9 0) ((g_X4_shortenWay a13 i2 i12 (mz_gg 64 (a13 9 0) (a13 11) i2 one) (mz_gg 64 (a13 9 0) (a13 11) oth i12)) 11) one i12)) hy_X4_shortenWay wl_X4_64 rfl rfl rfl ⟨Nat.le_of_ble_eq_true rfl, Nat.le_of_ble_eq_true rfl⟩ ⟨Nat.le_refl _, Nat.le_refl _⟩ (Nat.le_of_ble_eq_true rfl) (by decide +kernel) ?_ rfl
      refine mz_go FLX4 KLX4 C [(74, .iinc 4 1), (77, .goto (-64))] (by decide +kernel) (pc' := 13) (L' := [(4, .int (i12 + 1)), (0, .ref 1), (1, .int one), (2, .int oth), (3, .int i2)]) (st' := []) rfl ?_
      have hb22 := hb16 (by rw [hv17] at h11; exact h11)
      rw [show g_X4_shortenWays_2 M one oth i2 a3 i12 a13 = (g_X4_shortenWay (g_X4_shortenWay a13 i2 i12 (mz_gg 64 (a13 9 0) (a13 11) i2 one) (mz_gg 64 (a13 9 0) (a13 11) oth i12)) i2 i12 (mz_gg 64 ((g_X4_shortenWay a13 i2 i12 (mz_gg 64 (a13 9 0) (a13 11) i2 one) (mz_gg 64 (a13 9 0) (a13 11) oth i12)) 9 0) ((g_X4_shortenWay a13 i2 i12 (mz_gg 64 (a13 9 0) (a13 11) i2 one) (mz_gg 64 (a13 9 0) (a13 11) oth i12)) 11) i2 oth) (mz_gg 64 ((g_X4_shortenWay a13 i2 i12 (mz_gg 64 (a13 9 0) (a13 11) i2 one) (mz_gg 64 (a13 9 0) (a13 11) oth i12)) 9 0) ((g_X4_shortenWay a13 i2 i12 (mz_gg 64 (a13 9 0) (a13 11) i2 one) (mz_gg 64 (a13 9 0) (a13 11) oth i12)) 11) one i12)) from rfl] at hb22
      exact mz_sub (by simp) hb22
def g_X4_addDoor_2 (M : mz_Mem) (one : Int32) (oth : Int32) (w : Int32) (i2 : Int32) (a3 : mz_Mem) (i12 : Int32) (a13 : mz_Mem) : mz_Mem := (mz_s a13 14 (mz_gs 64 (a13 12 0) (a13 14) i2 i12 (g_X4_findNext a13 i2 i12)))
theorem g_X4_addDoor_2_hs (M : mz_Mem) (one : Int32) (oth : Int32) (w : Int32) (i2 : Int32) (a3 : mz_Mem) (i12 : Int32) (a13 : mz_Mem) : mz_hh a13 (g_X4_addDoor_2 M one oth w i2 a3 i12 a13) := by
  unfold g_X4_addDoor_2
  exact mz_hh_s (by decide)

def g_X4_addDoor_1 (M : mz_Mem) (one : Int32) (oth : Int32) (w : Int32) (i2 : Int32) (a3 : mz_Mem) : mz_Mem := (mz_fr (a3 1 0) (g_X4_addDoor_2 M one oth w i2 a3) a3)
theorem g_X4_addDoor_1_hs (M : mz_Mem) (one : Int32) (oth : Int32) (w : Int32) (i2 : Int32) (a3 : mz_Mem) : mz_hh a3 (g_X4_addDoor_1 M one oth w i2 a3) := by
  unfold g_X4_addDoor_1
  exact mz_hh_frp (fun (a : mz_Mem) => a) (fun i a => g_X4_addDoor_2_hs M one oth w i2 a3 i a)

def g_X4_addDoor (M : mz_Mem) (one : Int32) (oth : Int32) (w : Int32) : Int32 × mz_Mem := (((mz_fr ((g_X4_shortenWays (mz_s (mz_s (mz_s (mz_s M 1 (upd (M 1) 1 ((M 1 1) + 1))) 5 (mz_rs 14 ((mz_s M 1 (upd (M 1) 1 ((M 1 1) + 1))) 5) (M 1 1) w)) 8 (mz_gs 64 ((mz_s (mz_s M 1 (upd (M 1) 1 ((M 1 1) + 1))) 5 (mz_rs 14 ((mz_s M 1 (upd (M 1) 1 ((M 1 1) + 1))) 5) (M 1 1) w)) 6 0) ((mz_s (mz_s M 1 (upd (M 1) 1 ((M 1 1) + 1))) 5 (mz_rs 14 ((mz_s M 1 (upd (M 1) 1 ((M 1 1) + 1))) 5) (M 1 1) w)) 8) one oth (M 1 1))) 8 (mz_gs 64 ((mz_s (mz_s (mz_s M 1 (upd (M 1) 1 ((M 1 1) + 1))) 5 (mz_rs 14 ((mz_s M 1 (upd (M 1) 1 ((M 1 1) + 1))) 5) (M 1 1) w)) 8 (mz_gs 64 ((mz_s (mz_s M 1 (upd (M 1) 1 ((M 1 1) + 1))) 5 (mz_rs 14 ((mz_s M 1 (upd (M 1) 1 ((M 1 1) + 1))) 5) (M 1 1) w)) 6 0) ((mz_s (mz_s M 1 (upd (M 1) 1 ((M 1 1) + 1))) 5 (mz_rs 14 ((mz_s M 1 (upd (M 1) 1 ((M 1 1) + 1))) 5) (M 1 1) w)) 8) one oth (M 1 1))) 6 0) ((mz_s (mz_s (mz_s M 1 (upd (M 1) 1 ((M 1 1) + 1))) 5 (mz_rs 14 ((mz_s M 1 (upd (M 1) 1 ((M 1 1) + 1))) 5) (M 1 1) w)) 8 (mz_gs 64 ((mz_s (mz_s M 1 (upd (M 1) 1 ((M 1 1) + 1))) 5 (mz_rs 14 ((mz_s M 1 (upd (M 1) 1 ((M 1 1) + 1))) 5) (M 1 1) w)) 6 0) ((mz_s (mz_s M 1 (upd (M 1) 1 ((M 1 1) + 1))) 5 (mz_rs 14 ((mz_s M 1 (upd (M 1) 1 ((M 1 1) + 1))) 5) (M 1 1) w)) 8) one oth (M 1 1))) 8) oth one (M 1 1))) one oth) 1 0) (g_X4_addDoor_1 M one oth w) (g_X4_shortenWays (mz_s (mz_s (mz_s (mz_s M 1 (upd (M 1) 1 ((M 1 1) + 1))) 5 (mz_rs 14 ((mz_s M 1 (upd (M 1) 1 ((M 1 1) + 1))) 5) (M 1 1) w)) 8 (mz_gs 64 ((mz_s (mz_s M 1 (upd (M 1) 1 ((M 1 1) + 1))) 5 (mz_rs 14 ((mz_s M 1 (upd (M 1) 1 ((M 1 1) + 1))) 5) (M 1 1) w)) 6 0) ((mz_s (mz_s M 1 (upd (M 1) 1 ((M 1 1) + 1))) 5 (mz_rs 14 ((mz_s M 1 (upd (M 1) 1 ((M 1 1) + 1))) 5) (M 1 1) w)) 8) one oth (M 1 1))) 8 (mz_gs 64 ((mz_s (mz_s (mz_s M 1 (upd (M 1) 1 ((M 1 1) + 1))) 5 (mz_rs 14 ((mz_s M 1 (upd (M 1) 1 ((M 1 1) + 1))) 5) (M 1 1) w)) 8 (mz_gs 64 ((mz_s (mz_s M 1 (upd (M 1) 1 ((M 1 1) + 1))) 5 (mz_rs 14 ((mz_s M 1 (upd (M 1) 1 ((M 1 1) + 1))) 5) (M 1 1) w)) 6 0) ((mz_s (mz_s M 1 (upd (M 1) 1 ((M 1 1) + 1))) 5 (mz_rs 14 ((mz_s M 1 (upd (M 1) 1 ((M 1 1) + 1))) 5) (M 1 1) w)) 8) one oth (M 1 1))) 6 0) ((mz_s (mz_s (mz_s M 1 (upd (M 1) 1 ((M 1 1) + 1))) 5 (mz_rs 14 ((mz_s M 1 (upd (M 1) 1 ((M 1 1) + 1))) 5) (M 1 1) w)) 8 (mz_gs 64 ((mz_s (mz_s M 1 (upd (M 1) 1 ((M 1 1) + 1))) 5 (mz_rs 14 ((mz_s M 1 (upd (M 1) 1 ((M 1 1) + 1))) 5) (M 1 1) w)) 6 0) ((mz_s (mz_s M 1 (upd (M 1) 1 ((M 1 1) + 1))) 5 (mz_rs 14 ((mz_s M 1 (upd (M 1) 1 ((M 1 1) + 1))) 5) (M 1 1) w)) 8) one oth (M 1 1))) 8) oth one (M 1 1))) one oth)) 1 1), (mz_fr ((g_X4_shortenWays (mz_s (mz_s (mz_s (mz_s M 1 (upd (M 1) 1 ((M 1 1) + 1))) 5 (mz_rs 14 ((mz_s M 1 (upd (M 1) 1 ((M 1 1) + 1))) 5) (M 1 1) w)) 8 (mz_gs 64 ((mz_s (mz_s M 1 (upd (M 1) 1 ((M 1 1) + 1))) 5 (mz_rs 14 ((mz_s M 1 (upd (M 1) 1 ((M 1 1) + 1))) 5) (M 1 1) w)) 6 0) ((mz_s (mz_s M 1 (upd (M 1) 1 ((M 1 1) + 1))) 5 (mz_rs 14 ((mz_s M 1 (upd (M 1) 1 ((M 1 1) + 1))) 5) (M 1 1) w)) 8) one oth (M 1 1))) 8 (mz_gs 64 ((mz_s (mz_s (mz_s M 1 (upd (M 1) 1 ((M 1 1) + 1))) 5 (mz_rs 14 ((mz_s M 1 (upd (M 1) 1 ((M 1 1) + 1))) 5) (M 1 1) w)) 8 (mz_gs 64 ((mz_s (mz_s M 1 (upd (M 1) 1 ((M 1 1) + 1))) 5 (mz_rs 14 ((mz_s M 1 (upd (M 1) 1 ((M 1 1) + 1))) 5) (M 1 1) w)) 6 0) ((mz_s (mz_s M 1 (upd (M 1) 1 ((M 1 1) + 1))) 5 (mz_rs 14 ((mz_s M 1 (upd (M 1) 1 ((M 1 1) + 1))) 5) (M 1 1) w)) 8) one oth (M 1 1))) 6 0) ((mz_s (mz_s (mz_s M 1 (upd (M 1) 1 ((M 1 1) + 1))) 5 (mz_rs 14 ((mz_s M 1 (upd (M 1) 1 ((M 1 1) + 1))) 5) (M 1 1) w)) 8 (mz_gs 64 ((mz_s (mz_s M 1 (upd (M 1) 1 ((M 1 1) + 1))) 5 (mz_rs 14 ((mz_s M 1 (upd (M 1) 1 ((M 1 1) + 1))) 5) (M 1 1) w)) 6 0) ((mz_s (mz_s M 1 (upd (M 1) 1 ((M 1 1) + 1))) 5 (mz_rs 14 ((mz_s M 1 (upd (M 1) 1 ((M 1 1) + 1))) 5) (M 1 1) w)) 8) one oth (M 1 1))) 8) oth one (M 1 1))) one oth) 1 0) (g_X4_addDoor_1 M one oth w) (g_X4_shortenWays (mz_s (mz_s (mz_s (mz_s M 1 (upd (M 1) 1 ((M 1 1) + 1))) 5 (mz_rs 14 ((mz_s M 1 (upd (M 1) 1 ((M 1 1) + 1))) 5) (M 1 1) w)) 8 (mz_gs 64 ((mz_s (mz_s M 1 (upd (M 1) 1 ((M 1 1) + 1))) 5 (mz_rs 14 ((mz_s M 1 (upd (M 1) 1 ((M 1 1) + 1))) 5) (M 1 1) w)) 6 0) ((mz_s (mz_s M 1 (upd (M 1) 1 ((M 1 1) + 1))) 5 (mz_rs 14 ((mz_s M 1 (upd (M 1) 1 ((M 1 1) + 1))) 5) (M 1 1) w)) 8) one oth (M 1 1))) 8 (mz_gs 64 ((mz_s (mz_s (mz_s M 1 (upd (M 1) 1 ((M 1 1) + 1))) 5 (mz_rs 14 ((mz_s M 1 (upd (M 1) 1 ((M 1 1) + 1))) 5) (M 1 1) w)) 8 (mz_gs 64 ((mz_s (mz_s M 1 (upd (M 1) 1 ((M 1 1) + 1))) 5 (mz_rs 14 ((mz_s M 1 (upd (M 1) 1 ((M 1 1) + 1))) 5) (M 1 1) w)) 6 0) ((mz_s (mz_s M 1 (upd (M 1) 1 ((M 1 1) + 1))) 5 (mz_rs 14 ((mz_s M 1 (upd (M 1) 1 ((M 1 1) + 1))) 5) (M 1 1) w)) 8) one oth (M 1 1))) 6 0) ((mz_s (mz_s (mz_s M 1 (upd (M 1) 1 ((M 1 1) + 1))) 5 (mz_rs 14 ((mz_s M 1 (upd (M 1) 1 ((M 1 1) + 1))) 5) (M 1 1) w)) 8 (mz_gs 64 ((mz_s (mz_s M 1 (upd (M 1) 1 ((M 1 1) + 1))) 5 (mz_rs 14 ((mz_s M 1 (upd (M 1) 1 ((M 1 1) + 1))) 5) (M 1 1) w)) 6 0) ((mz_s (mz_s M 1 (upd (M 1) 1 ((M 1 1) + 1))) 5 (mz_rs 14 ((mz_s M 1 (upd (M 1) 1 ((M 1 1) + 1))) 5) (M 1 1) w)) 8) one oth (M 1 1))) 8) oth one (M 1 1))) one oth)))
set_option maxHeartbeats 4000000 in
theorem f_X4_addDoor (l : Launch) (D : va_G) (cA : ClassId) (ρ : Nat → Nat) (hI : mz_I ρ mz_lay1) (M : mz_Mem) (one : Int32) (oth : Int32) (w : Int32) : mz_M l D vwCl cA ρ mz_lay1 yX4_addDoor cX4_addDoor 7 (some .int) 4 95 [.ref 1, .int one, .int oth, .int w] M (some (.int (g_X4_addDoor M one oth w).1)) (g_X4_addDoor M one oth w).2 := by
  refine mz_in0 (by decide +kernel) (Nat.le_of_ble_eq_true rfl) (fun Γ C E => ?_)
  have E' := (⟨_, _, _, E⟩ : ∃ Qc mc ms, mz_E Γ Qc mc ms (mz_A ρ mz_lay1))
  refine mz_go FLX4 KLX4 C [(0, .aload_n 0), (1, .getfield 51), (4, .istore 4), (6, .aload_n 0), (7, .dup), (8, .getfield 51), (11, .iconst 1), (12, .iadd)] (by decide +kernel) (pc' := 13) (L' := [(4, .int (M 1 1)), (0, .ref 1), (1, .int one), (2, .int oth), (3, .int w)]) (st' := [.int ((M 1 1) + 1), .ref 1]) rfl ?_
  refine mz_put (id := 1) (ci := 4) (j := 1) (T := TX4) (N := 7) C E' hI rfl rfl rfl (by decide) iu_X4 tyX4 tyX4_ok nmX4 wf_X4_51 rfl (by decide +kernel) (by decide +kernel) ?_
  refine mz_go FLX4 KLX4 C [(16, .aload_n 0), (17, .getfield 20), (20, .iload 4), (22, .iload_n 3)] (by decide +kernel) (pc' := 23) (L' := [(4, .int (M 1 1)), (0, .ref 1), (1, .int one), (2, .int oth), (3, .int w)]) (st' := [.int w, .int (M 1 1), .ref 4]) rfl ?_
  refine mz_callV (As := [.int (M 1 1), .int w]) (rest := []) C E' (f_Row_set l D cA ρ hI (r := 4) (a := 5) (n := 14) rfl rfl (by decide) (mz_s M 1 (upd (M 1) 1 ((M 1 1) + 1))) (M 1 1) w) hy_X6_set wl_X4_45 rfl rfl rfl ⟨Nat.le_of_ble_eq_true rfl, Nat.le_of_ble_eq_true rfl⟩ ⟨Nat.le_refl _, Nat.le_refl _⟩ (Nat.le_of_ble_eq_true rfl) (by decide +kernel) ?_ rfl
  refine mz_go FLX4 KLX4 C [(26, .aload_n 0), (27, .getfield 28), (30, .iload_n 1), (31, .iload_n 2), (32, .iload 4)] (by decide +kernel) (pc' := 34) (L' := [(4, .int (M 1 1)), (0, .ref 1), (1, .int one), (2, .int oth), (3, .int w)]) (st' := [.int (M 1 1), .int oth, .int one, .ref 6]) rfl ?_
  refine mz_callV (As := [.int one, .int oth, .int (M 1 1)]) (rest := []) C E' (f_Grid_set l D cA ρ hI (g := 6) (r := 7) (a := 8) (n := 64) rfl rfl rfl (by decide) (mz_s (mz_s M 1 (upd (M 1) 1 ((M 1 1) + 1))) 5 (mz_rs 14 ((mz_s M 1 (upd (M 1) 1 ((M 1 1) + 1))) 5) (M 1 1) w)) one oth (M 1 1)) hy_X3_set wl_X4_48 rfl rfl rfl ⟨Nat.le_of_ble_eq_true rfl, Nat.le_of_ble_eq_true rfl⟩ ⟨Nat.le_refl _, Nat.le_refl _⟩ (Nat.le_of_ble_eq_true rfl) (by decide +kernel) ?_ rfl
  refine mz_go FLX4 KLX4 C [(37, .aload_n 0), (38, .getfield 28), (41, .iload_n 2), (42, .iload_n 1), (43, .iload 4)] (by decide +kernel) (pc' := 45) (L' := [(4, .int (M 1 1)), (0, .ref 1), (1, .int one), (2, .int oth), (3, .int w)]) (st' := [.int (M 1 1), .int one, .int oth, .ref 6]) rfl ?_
  refine mz_callV (As := [.int oth, .int one, .int (M 1 1)]) (rest := []) C E' (f_Grid_set l D cA ρ hI (g := 6) (r := 7) (a := 8) (n := 64) rfl rfl rfl (by decide) (mz_s (mz_s (mz_s M 1 (upd (M 1) 1 ((M 1 1) + 1))) 5 (mz_rs 14 ((mz_s M 1 (upd (M 1) 1 ((M 1 1) + 1))) 5) (M 1 1) w)) 8 (mz_gs 64 ((mz_s (mz_s M 1 (upd (M 1) 1 ((M 1 1) + 1))) 5 (mz_rs 14 ((mz_s M 1 (upd (M 1) 1 ((M 1 1) + 1))) 5) (M 1 1) w)) 6 0) ((mz_s (mz_s M 1 (upd (M 1) 1 ((M 1 1) + 1))) 5 (mz_rs 14 ((mz_s M 1 (upd (M 1) 1 ((M 1 1) + 1))) 5) (M 1 1) w)) 8) one oth (M 1 1))) oth one (M 1 1)) hy_X3_set wl_X4_48 rfl rfl rfl ⟨Nat.le_of_ble_eq_true rfl, Nat.le_of_ble_eq_true rfl⟩ ⟨Nat.le_refl _, Nat.le_refl _⟩ (Nat.le_of_ble_eq_true rfl) (by decide +kernel) ?_ rfl
  refine mz_go FLX4 KLX4 C [(48, .aload_n 0), (49, .iload_n 1), (50, .iload_n 2)] (by decide +kernel) (pc' := 51) (L' := [(4, .int (M 1 1)), (0, .ref 1), (1, .int one), (2, .int oth), (3, .int w)]) (st' := [.int oth, .int one, .ref 1]) rfl ?_
  refine mz_callV (As := [.int one, .int oth]) (rest := []) C E' (f_X4_shortenWays l D cA ρ hI (mz_s (mz_s (mz_s (mz_s M 1 (upd (M 1) 1 ((M 1 1) + 1))) 5 (mz_rs 14 ((mz_s M 1 (upd (M 1) 1 ((M 1 1) + 1))) 5) (M 1 1) w)) 8 (mz_gs 64 ((mz_s (mz_s M 1 (upd (M 1) 1 ((M 1 1) + 1))) 5 (mz_rs 14 ((mz_s M 1 (upd (M 1) 1 ((M 1 1) + 1))) 5) (M 1 1) w)) 6 0) ((mz_s (mz_s M 1 (upd (M 1) 1 ((M 1 1) + 1))) 5 (mz_rs 14 ((mz_s M 1 (upd (M 1) 1 ((M 1 1) + 1))) 5) (M 1 1) w)) 8) one oth (M 1 1))) 8 (mz_gs 64 ((mz_s (mz_s (mz_s M 1 (upd (M 1) 1 ((M 1 1) + 1))) 5 (mz_rs 14 ((mz_s M 1 (upd (M 1) 1 ((M 1 1) + 1))) 5) (M 1 1) w)) 8 (mz_gs 64 ((mz_s (mz_s M 1 (upd (M 1) 1 ((M 1 1) + 1))) 5 (mz_rs 14 ((mz_s M 1 (upd (M 1) 1 ((M 1 1) + 1))) 5) (M 1 1) w)) 6 0) ((mz_s (mz_s M 1 (upd (M 1) 1 ((M 1 1) + 1))) 5 (mz_rs 14 ((mz_s M 1 (upd (M 1) 1 ((M 1 1) + 1))) 5) (M 1 1) w)) 8) one oth (M 1 1))) 6 0) ((mz_s (mz_s (mz_s M 1 (upd (M 1) 1 ((M 1 1) + 1))) 5 (mz_rs 14 ((mz_s M 1 (upd (M 1) 1 ((M 1 1) + 1))) 5) (M 1 1) w)) 8 (mz_gs 64 ((mz_s (mz_s M 1 (upd (M 1) 1 ((M 1 1) + 1))) 5 (mz_rs 14 ((mz_s M 1 (upd (M 1) 1 ((M 1 1) + 1))) 5) (M 1 1) w)) 6 0) ((mz_s (mz_s M 1 (upd (M 1) 1 ((M 1 1) + 1))) 5 (mz_rs 14 ((mz_s M 1 (upd (M 1) 1 ((M 1 1) + 1))) 5) (M 1 1) w)) 8) one oth (M 1 1))) 8) oth one (M 1 1))) one oth) hy_X4_shortenWays wl_X4_54 rfl rfl rfl ⟨Nat.le_of_ble_eq_true rfl, Nat.le_of_ble_eq_true rfl⟩ ⟨Nat.le_refl _, Nat.le_refl _⟩ (Nat.le_of_ble_eq_true rfl) (by decide +kernel) ?_ rfl
  refine mz_go FLX4 KLX4 C [(54, .iconst 0), (55, .istore 5)] (by decide +kernel) (pc' := 57) (L' := [(5, .int 0), (4, .int (M 1 1)), (0, .ref 1), (1, .int one), (2, .int oth), (3, .int w)]) (st' := []) rfl ?_
  refine mz_sub (L' := [(0, .ref 1), (1, .int one), (2, .int oth), (3, .int w), (4, .int (M 1 1)), (5, .int 0)]) (by simp) ?_
  refine mz_loopI ((g_X4_shortenWays (mz_s (mz_s (mz_s (mz_s M 1 (upd (M 1) 1 ((M 1 1) + 1))) 5 (mz_rs 14 ((mz_s M 1 (upd (M 1) 1 ((M 1 1) + 1))) 5) (M 1 1) w)) 8 (mz_gs 64 ((mz_s (mz_s M 1 (upd (M 1) 1 ((M 1 1) + 1))) 5 (mz_rs 14 ((mz_s M 1 (upd (M 1) 1 ((M 1 1) + 1))) 5) (M 1 1) w)) 6 0) ((mz_s (mz_s M 1 (upd (M 1) 1 ((M 1 1) + 1))) 5 (mz_rs 14 ((mz_s M 1 (upd (M 1) 1 ((M 1 1) + 1))) 5) (M 1 1) w)) 8) one oth (M 1 1))) 8 (mz_gs 64 ((mz_s (mz_s (mz_s M 1 (upd (M 1) 1 ((M 1 1) + 1))) 5 (mz_rs 14 ((mz_s M 1 (upd (M 1) 1 ((M 1 1) + 1))) 5) (M 1 1) w)) 8 (mz_gs 64 ((mz_s (mz_s M 1 (upd (M 1) 1 ((M 1 1) + 1))) 5 (mz_rs 14 ((mz_s M 1 (upd (M 1) 1 ((M 1 1) + 1))) 5) (M 1 1) w)) 6 0) ((mz_s (mz_s M 1 (upd (M 1) 1 ((M 1 1) + 1))) 5 (mz_rs 14 ((mz_s M 1 (upd (M 1) 1 ((M 1 1) + 1))) 5) (M 1 1) w)) 8) one oth (M 1 1))) 6 0) ((mz_s (mz_s (mz_s M 1 (upd (M 1) 1 ((M 1 1) + 1))) 5 (mz_rs 14 ((mz_s M 1 (upd (M 1) 1 ((M 1 1) + 1))) 5) (M 1 1) w)) 8 (mz_gs 64 ((mz_s (mz_s M 1 (upd (M 1) 1 ((M 1 1) + 1))) 5 (mz_rs 14 ((mz_s M 1 (upd (M 1) 1 ((M 1 1) + 1))) 5) (M 1 1) w)) 6 0) ((mz_s (mz_s M 1 (upd (M 1) 1 ((M 1 1) + 1))) 5 (mz_rs 14 ((mz_s M 1 (upd (M 1) 1 ((M 1 1) + 1))) 5) (M 1 1) w)) 8) one oth (M 1 1))) 8) oth one (M 1 1))) one oth) 1 0) (g_X4_addDoor_1 M one oth w) (fun (i : Int32) (a : mz_Mem) => mz_W Γ ρ 7 0 0 (mz_H D vwCl cA ρ mz_lay1 a) 57 [(0, .ref 1), (1, .int one), (2, .int oth), (3, .int w), (4, .int (M 1 1)), (5, .int i)] []) (fun (a : mz_Mem) => a 1 0 = (g_X4_shortenWays (mz_s (mz_s (mz_s (mz_s M 1 (upd (M 1) 1 ((M 1 1) + 1))) 5 (mz_rs 14 ((mz_s M 1 (upd (M 1) 1 ((M 1 1) + 1))) 5) (M 1 1) w)) 8 (mz_gs 64 ((mz_s (mz_s M 1 (upd (M 1) 1 ((M 1 1) + 1))) 5 (mz_rs 14 ((mz_s M 1 (upd (M 1) 1 ((M 1 1) + 1))) 5) (M 1 1) w)) 6 0) ((mz_s (mz_s M 1 (upd (M 1) 1 ((M 1 1) + 1))) 5 (mz_rs 14 ((mz_s M 1 (upd (M 1) 1 ((M 1 1) + 1))) 5) (M 1 1) w)) 8) one oth (M 1 1))) 8 (mz_gs 64 ((mz_s (mz_s (mz_s M 1 (upd (M 1) 1 ((M 1 1) + 1))) 5 (mz_rs 14 ((mz_s M 1 (upd (M 1) 1 ((M 1 1) + 1))) 5) (M 1 1) w)) 8 (mz_gs 64 ((mz_s (mz_s M 1 (upd (M 1) 1 ((M 1 1) + 1))) 5 (mz_rs 14 ((mz_s M 1 (upd (M 1) 1 ((M 1 1) + 1))) 5) (M 1 1) w)) 6 0) ((mz_s (mz_s M 1 (upd (M 1) 1 ((M 1 1) + 1))) 5 (mz_rs 14 ((mz_s M 1 (upd (M 1) 1 ((M 1 1) + 1))) 5) (M 1 1) w)) 8) one oth (M 1 1))) 6 0) ((mz_s (mz_s (mz_s M 1 (upd (M 1) 1 ((M 1 1) + 1))) 5 (mz_rs 14 ((mz_s M 1 (upd (M 1) 1 ((M 1 1) + 1))) 5) (M 1 1) w)) 8 (mz_gs 64 ((mz_s (mz_s M 1 (upd (M 1) 1 ((M 1 1) + 1))) 5 (mz_rs 14 ((mz_s M 1 (upd (M 1) 1 ((M 1 1) + 1))) 5) (M 1 1) w)) 6 0) ((mz_s (mz_s M 1 (upd (M 1) 1 ((M 1 1) + 1))) 5 (mz_rs 14 ((mz_s M 1 (upd (M 1) 1 ((M 1 1) + 1))) 5) (M 1 1) w)) 8) one oth (M 1 1))) 8) oth one (M 1 1))) one oth) 1 0) (g_X4_shortenWays (mz_s (mz_s (mz_s (mz_s M 1 (upd (M 1) 1 ((M 1 1) + 1))) 5 (mz_rs 14 ((mz_s M 1 (upd (M 1) 1 ((M 1 1) + 1))) 5) (M 1 1) w)) 8 (mz_gs 64 ((mz_s (mz_s M 1 (upd (M 1) 1 ((M 1 1) + 1))) 5 (mz_rs 14 ((mz_s M 1 (upd (M 1) 1 ((M 1 1) + 1))) 5) (M 1 1) w)) 6 0) ((mz_s (mz_s M 1 (upd (M 1) 1 ((M 1 1) + 1))) 5 (mz_rs 14 ((mz_s M 1 (upd (M 1) 1 ((M 1 1) + 1))) 5) (M 1 1) w)) 8) one oth (M 1 1))) 8 (mz_gs 64 ((mz_s (mz_s (mz_s M 1 (upd (M 1) 1 ((M 1 1) + 1))) 5 (mz_rs 14 ((mz_s M 1 (upd (M 1) 1 ((M 1 1) + 1))) 5) (M 1 1) w)) 8 (mz_gs 64 ((mz_s (mz_s M 1 (upd (M 1) 1 ((M 1 1) + 1))) 5 (mz_rs 14 ((mz_s M 1 (upd (M 1) 1 ((M 1 1) + 1))) 5) (M 1 1) w)) 6 0) ((mz_s (mz_s M 1 (upd (M 1) 1 ((M 1 1) + 1))) 5 (mz_rs 14 ((mz_s M 1 (upd (M 1) 1 ((M 1 1) + 1))) 5) (M 1 1) w)) 8) one oth (M 1 1))) 6 0) ((mz_s (mz_s (mz_s M 1 (upd (M 1) 1 ((M 1 1) + 1))) 5 (mz_rs 14 ((mz_s M 1 (upd (M 1) 1 ((M 1 1) + 1))) 5) (M 1 1) w)) 8 (mz_gs 64 ((mz_s (mz_s M 1 (upd (M 1) 1 ((M 1 1) + 1))) 5 (mz_rs 14 ((mz_s M 1 (upd (M 1) 1 ((M 1 1) + 1))) 5) (M 1 1) w)) 6 0) ((mz_s (mz_s M 1 (upd (M 1) 1 ((M 1 1) + 1))) 5 (mz_rs 14 ((mz_s M 1 (upd (M 1) 1 ((M 1 1) + 1))) 5) (M 1 1) w)) 8) one oth (M 1 1))) 8) oth one (M 1 1))) one oth) rfl (fun i a h => ?_) (fun i2 a3 hi4 hv7 hx5 hb6 => ?_)
  · exact (congrFun (g_X4_addDoor_1_hs M one oth w i a _ (by decide)) _).trans h
  have hv7 : a3 1 0 = (g_X4_shortenWays (mz_s (mz_s (mz_s (mz_s M 1 (upd (M 1) 1 ((M 1 1) + 1))) 5 (mz_rs 14 ((mz_s M 1 (upd (M 1) 1 ((M 1 1) + 1))) 5) (M 1 1) w)) 8 (mz_gs 64 ((mz_s (mz_s M 1 (upd (M 1) 1 ((M 1 1) + 1))) 5 (mz_rs 14 ((mz_s M 1 (upd (M 1) 1 ((M 1 1) + 1))) 5) (M 1 1) w)) 6 0) ((mz_s (mz_s M 1 (upd (M 1) 1 ((M 1 1) + 1))) 5 (mz_rs 14 ((mz_s M 1 (upd (M 1) 1 ((M 1 1) + 1))) 5) (M 1 1) w)) 8) one oth (M 1 1))) 8 (mz_gs 64 ((mz_s (mz_s (mz_s M 1 (upd (M 1) 1 ((M 1 1) + 1))) 5 (mz_rs 14 ((mz_s M 1 (upd (M 1) 1 ((M 1 1) + 1))) 5) (M 1 1) w)) 8 (mz_gs 64 ((mz_s (mz_s M 1 (upd (M 1) 1 ((M 1 1) + 1))) 5 (mz_rs 14 ((mz_s M 1 (upd (M 1) 1 ((M 1 1) + 1))) 5) (M 1 1) w)) 6 0) ((mz_s (mz_s M 1 (upd (M 1) 1 ((M 1 1) + 1))) 5 (mz_rs 14 ((mz_s M 1 (upd (M 1) 1 ((M 1 1) + 1))) 5) (M 1 1) w)) 8) one oth (M 1 1))) 6 0) ((mz_s (mz_s (mz_s M 1 (upd (M 1) 1 ((M 1 1) + 1))) 5 (mz_rs 14 ((mz_s M 1 (upd (M 1) 1 ((M 1 1) + 1))) 5) (M 1 1) w)) 8 (mz_gs 64 ((mz_s (mz_s M 1 (upd (M 1) 1 ((M 1 1) + 1))) 5 (mz_rs 14 ((mz_s M 1 (upd (M 1) 1 ((M 1 1) + 1))) 5) (M 1 1) w)) 6 0) ((mz_s (mz_s M 1 (upd (M 1) 1 ((M 1 1) + 1))) 5 (mz_rs 14 ((mz_s M 1 (upd (M 1) 1 ((M 1 1) + 1))) 5) (M 1 1) w)) 8) one oth (M 1 1))) 8) oth one (M 1 1))) one oth) 1 0 := hv7
  refine mz_go FLX4 KLX4 C [(57, .iload 5), (59, .aload_n 0), (60, .getfield 41)] (by decide +kernel) (pc' := 63) (L' := [(0, .ref 1), (1, .int one), (2, .int oth), (3, .int w), (4, .int (M 1 1)), (5, .int i2)]) (st' := [.int (a3 1 0), .int i2]) rfl ?_
  refine mz_ige (off := 46) (tgt := 109) C (by decide +kernel) (by decide) (fun h1 => ?_) (fun h1 => ?_)
  · have e10 := hx5 (by rw [hv7] at h1; exact h1)
    subst e10
    refine mz_sub (L' := [(0, .ref 1), (1, .int one), (2, .int oth), (3, .int w), (4, .int (M 1 1))]) (by simp) ?_
    refine mz_go FLX4 KLX4 C [(109, .aload_n 0), (110, .getfield 51)] (by decide +kernel) (pc' := 113) (L' := [(0, .ref 1), (1, .int one), (2, .int oth), (3, .int w), (4, .int (M 1 1))]) (st' := [.int ((mz_fr ((g_X4_shortenWays (mz_s (mz_s (mz_s (mz_s M 1 (upd (M 1) 1 ((M 1 1) + 1))) 5 (mz_rs 14 ((mz_s M 1 (upd (M 1) 1 ((M 1 1) + 1))) 5) (M 1 1) w)) 8 (mz_gs 64 ((mz_s (mz_s M 1 (upd (M 1) 1 ((M 1 1) + 1))) 5 (mz_rs 14 ((mz_s M 1 (upd (M 1) 1 ((M 1 1) + 1))) 5) (M 1 1) w)) 6 0) ((mz_s (mz_s M 1 (upd (M 1) 1 ((M 1 1) + 1))) 5 (mz_rs 14 ((mz_s M 1 (upd (M 1) 1 ((M 1 1) + 1))) 5) (M 1 1) w)) 8) one oth (M 1 1))) 8 (mz_gs 64 ((mz_s (mz_s (mz_s M 1 (upd (M 1) 1 ((M 1 1) + 1))) 5 (mz_rs 14 ((mz_s M 1 (upd (M 1) 1 ((M 1 1) + 1))) 5) (M 1 1) w)) 8 (mz_gs 64 ((mz_s (mz_s M 1 (upd (M 1) 1 ((M 1 1) + 1))) 5 (mz_rs 14 ((mz_s M 1 (upd (M 1) 1 ((M 1 1) + 1))) 5) (M 1 1) w)) 6 0) ((mz_s (mz_s M 1 (upd (M 1) 1 ((M 1 1) + 1))) 5 (mz_rs 14 ((mz_s M 1 (upd (M 1) 1 ((M 1 1) + 1))) 5) (M 1 1) w)) 8) one oth (M 1 1))) 6 0) ((mz_s (mz_s (mz_s M 1 (upd (M 1) 1 ((M 1 1) + 1))) 5 (mz_rs 14 ((mz_s M 1 (upd (M 1) 1 ((M 1 1) + 1))) 5) (M 1 1) w)) 8 (mz_gs 64 ((mz_s (mz_s M 1 (upd (M 1) 1 ((M 1 1) + 1))) 5 (mz_rs 14 ((mz_s M 1 (upd (M 1) 1 ((M 1 1) + 1))) 5) (M 1 1) w)) 6 0) ((mz_s (mz_s M 1 (upd (M 1) 1 ((M 1 1) + 1))) 5 (mz_rs 14 ((mz_s M 1 (upd (M 1) 1 ((M 1 1) + 1))) 5) (M 1 1) w)) 8) one oth (M 1 1))) 8) oth one (M 1 1))) one oth) 1 0) (g_X4_addDoor_1 M one oth w) (g_X4_shortenWays (mz_s (mz_s (mz_s (mz_s M 1 (upd (M 1) 1 ((M 1 1) + 1))) 5 (mz_rs 14 ((mz_s M 1 (upd (M 1) 1 ((M 1 1) + 1))) 5) (M 1 1) w)) 8 (mz_gs 64 ((mz_s (mz_s M 1 (upd (M 1) 1 ((M 1 1) + 1))) 5 (mz_rs 14 ((mz_s M 1 (upd (M 1) 1 ((M 1 1) + 1))) 5) (M 1 1) w)) 6 0) ((mz_s (mz_s M 1 (upd (M 1) 1 ((M 1 1) + 1))) 5 (mz_rs 14 ((mz_s M 1 (upd (M 1) 1 ((M 1 1) + 1))) 5) (M 1 1) w)) 8) one oth (M 1 1))) 8 (mz_gs 64 ((mz_s (mz_s (mz_s M 1 (upd (M 1) 1 ((M 1 1) + 1))) 5 (mz_rs 14 ((mz_s M 1 (upd (M 1) 1 ((M 1 1) + 1))) 5) (M 1 1) w)) 8 (mz_gs 64 ((mz_s (mz_s M 1 (upd (M 1) 1 ((M 1 1) + 1))) 5 (mz_rs 14 ((mz_s M 1 (upd (M 1) 1 ((M 1 1) + 1))) 5) (M 1 1) w)) 6 0) ((mz_s (mz_s M 1 (upd (M 1) 1 ((M 1 1) + 1))) 5 (mz_rs 14 ((mz_s M 1 (upd (M 1) 1 ((M 1 1) + 1))) 5) (M 1 1) w)) 8) one oth (M 1 1))) 6 0) ((mz_s (mz_s (mz_s M 1 (upd (M 1) 1 ((M 1 1) + 1))) 5 (mz_rs 14 ((mz_s M 1 (upd (M 1) 1 ((M 1 1) + 1))) 5) (M 1 1) w)) 8 (mz_gs 64 ((mz_s (mz_s M 1 (upd (M 1) 1 ((M 1 1) + 1))) 5 (mz_rs 14 ((mz_s M 1 (upd (M 1) 1 ((M 1 1) + 1))) 5) (M 1 1) w)) 6 0) ((mz_s (mz_s M 1 (upd (M 1) 1 ((M 1 1) + 1))) 5 (mz_rs 14 ((mz_s M 1 (upd (M 1) 1 ((M 1 1) + 1))) 5) (M 1 1) w)) 8) one oth (M 1 1))) 8) oth one (M 1 1))) one oth)) 1 1)]) rfl ?_
    exact mz_iret C E (by decide +kernel) (rfl) (rfl)
  · refine mz_go FLX4 KLX4 C [(66, .iconst 0), (67, .istore 6)] (by decide +kernel) (pc' := 69) (L' := [(6, .int 0), (0, .ref 1), (1, .int one), (2, .int oth), (3, .int w), (4, .int (M 1 1)), (5, .int i2)]) (st' := []) rfl ?_
    refine mz_sub (L' := [(0, .ref 1), (1, .int one), (2, .int oth), (3, .int w), (4, .int (M 1 1)), (5, .int i2), (6, .int 0)]) (by simp) ?_
    refine mz_loopI (a3 1 0) (g_X4_addDoor_2 M one oth w i2 a3) (fun (i : Int32) (a : mz_Mem) => mz_W Γ ρ 7 0 0 (mz_H D vwCl cA ρ mz_lay1 a) 69 [(0, .ref 1), (1, .int one), (2, .int oth), (3, .int w), (4, .int (M 1 1)), (5, .int i2), (6, .int i)] []) (fun (a : mz_Mem) => a 1 0 = a3 1 0) a3 rfl (fun i a h => ?_) (fun i12 a13 hi14 hv17 hx15 hb16 => ?_)
    · exact (congrFun (g_X4_addDoor_2_hs M one oth w i2 a3 i a _ (by decide)) _).trans h
    have hv17 : a13 1 0 = a3 1 0 := hv17
    refine mz_go FLX4 KLX4 C [(69, .iload 6), (71, .aload_n 0), (72, .getfield 41)] (by decide +kernel) (pc' := 75) (L' := [(0, .ref 1), (1, .int one), (2, .int oth), (3, .int w), (4, .int (M 1 1)), (5, .int i2), (6, .int i12)]) (st' := [.int (a13 1 0), .int i12]) rfl ?_
    refine mz_ige (off := 28) (tgt := 103) C (by decide +kernel) (by decide) (fun h11 => ?_) (fun h11 => ?_)
    · have e20 := hx15 (by rw [hv17] at h11; exact h11)
      subst e20
      refine mz_sub (L' := [(0, .ref 1), (1, .int one), (2, .int oth), (3, .int w), (4, .int (M 1 1)), (5, .int i2)]) (by simp) ?_
      refine mz_go FLX4 KLX4 C [(103, .iinc 5 1), (106, .goto (-49))] (by decide +kernel) (pc' := 57) (L' := [(5, .int (i2 + 1)), (0, .ref 1), (1, .int one), (2, .int oth), (3, .int w), (4, .int (M 1 1))]) (st' := []) rfl ?_
      have hb21 := hb6 (by rw [hv7] at h1; exact h1)
      rw [show g_X4_addDoor_1 M one oth w i2 a3 = (mz_fr (a3 1 0) (g_X4_addDoor_2 M one oth w i2 a3) a3) from rfl] at hb21
      exact mz_sub (by simp) hb21
    · refine mz_go FLX4 KLX4 C [(78, .aload_n 0), (79, .getfield 35), (82, .iload 5), (84, .iload 6), (86, .aload_n 0), (87, .iload 5), (89, .iload 6)] (by decide +kernel) (pc' := 91) (L' := [(0, .ref 1), (1, .int one), (2, .int oth), (3, .int w), (4, .int (M 1 1)), (5, .int i2), (6, .int i12)]) (st' := [.int i12, .int i2, .ref 1, .int i12, .int i2, .ref 12]) rfl ?_
      refine mz_callV (As := [.int i2, .int i12]) (rest := [.int i12, .int i2, .ref 12]) C E' (f_X4_findNext l D cA ρ hI a13 i2 i12) hy_X4_findNext wl_X4_57 rfl rfl rfl ⟨Nat.le_of_ble_eq_true rfl, Nat.le_of_ble_eq_true rfl⟩ ⟨Nat.le_refl _, Nat.le_refl _⟩ (Nat.le_of_ble_eq_true rfl) (by decide +kernel) ?_ rfl
      refine mz_callV (As := [.int i2, .int i12, .int (g_X4_findNext a13 i2 i12)]) (rest := []) C E' (f_Grid_set l D cA ρ hI (g := 12) (r := 13) (a := 14) (n := 64) rfl rfl rfl (by decide) a13 i2 i12 (g_X4_findNext a13 i2 i12)) hy_X3_set wl_X4_48 rfl rfl rfl ⟨Nat.le_of_ble_eq_true rfl, Nat.le_of_ble_eq_true rfl⟩ ⟨Nat.le_refl _, Nat.le_refl _⟩ (Nat.le_of_ble_eq_true rfl) (by decide +kernel) ?_ rfl
      refine mz_go FLX4 KLX4 C [(97, .iinc 6 1), (100, .goto (-31))] (by decide +kernel) (pc' := 69) (L' := [(6, .int (i12 + 1)), (0, .ref 1), (1, .int one), (2, .int oth), (3, .int w), (4, .int (M 1 1)), (5, .int i2)]) (st' := []) rfl ?_
      have hb22 := hb16 (by rw [hv17] at h11; exact h11)
      rw [show g_X4_addDoor_2 M one oth w i2 a3 i12 a13 = (mz_s a13 14 (mz_gs 64 (a13 12 0) (a13 14) i2 i12 (g_X4_findNext a13 i2 i12))) from rfl] at hb22
      exact mz_sub (by simp) hb22
end
section
def g_X2_moveTrack (M : mz_Mem) (t : Int32) (w : Int32) : mz_Mem := if (mz_gg 64 (M 12 0) (M 14) (mz_rg 5 (M 35) t) w) = (-1) then M else if (mz_gg 64 (M 12 0) (M 14) (mz_rg 5 (M 35) t) w) = (mz_rg 5 (M 35) t) then M else (g_X1_walk M t (mz_gg 64 (M 12 0) (M 14) (mz_rg 5 (M 35) t) w))
theorem g_X2_moveTrack_hs (M : mz_Mem) (t : Int32) (w : Int32) : mz_hs M (g_X2_moveTrack M t w) := by
  unfold g_X2_moveTrack
  by_cases h1 : (mz_gg 64 (M 12 0) (M 14) (mz_rg 5 (M 35) t) w) = (-1)
  · rw [if_pos h1]
    exact mz_hs_rf
  · rw [if_neg h1]
    by_cases h2 : (mz_gg 64 (M 12 0) (M 14) (mz_rg 5 (M 35) t) w) = (mz_rg 5 (M 35) t)
    · rw [if_pos h2]
      exact mz_hs_rf
    · rw [if_neg h2]
      exact g_X1_walk_hs M t (mz_gg 64 (M 12 0) (M 14) (mz_rg 5 (M 35) t) w)

set_option maxHeartbeats 4000000 in
theorem f_X2_moveTrack (l : Launch) (D : va_G) (cA : ClassId) (ρ : Nat → Nat) (hI : mz_I ρ mz_lay1) (M : mz_Mem) (t : Int32) (w : Int32) : mz_M l D vwCl cA ρ mz_lay1 yX2_moveTrack cX2_moveTrack 5 none 3 68 [.ref 30, .int t, .int w] M none (g_X2_moveTrack M t w) := by
  refine mz_in0 (by decide +kernel) (Nat.le_of_ble_eq_true rfl) (fun Γ C E => ?_)
  have E' := (⟨_, _, _, E⟩ : ∃ Qc mc ms, mz_E Γ Qc mc ms (mz_A ρ mz_lay1))
  refine mz_go FLX2 KLX2 C [(0, .aload_n 0), (1, .getfield 33), (4, .getfield 137), (7, .iload_n 1)] (by decide +kernel) (pc' := 8) (L' := [(0, .ref 30), (1, .int t), (2, .int w)]) (st' := [.int t, .ref 34]) rfl ?_
  refine mz_callV (As := [.int t]) (rest := []) C E' (f_Row_get l D cA ρ hI (r := 34) (a := 35) (n := 5) rfl rfl (by decide) M t) hy_X6_get wl_X2_121 rfl rfl rfl ⟨Nat.le_of_ble_eq_true rfl, Nat.le_of_ble_eq_true rfl⟩ ⟨Nat.le_refl _, Nat.le_refl _⟩ (Nat.le_of_ble_eq_true rfl) (by decide +kernel) ?_ rfl
  refine mz_go FLX2 KLX2 C [(11, .istore_n 3), (12, .aload_n 0), (13, .getfield 20), (16, .getfield 138), (19, .iload_n 3), (20, .iload_n 2)] (by decide +kernel) (pc' := 21) (L' := [(3, .int (mz_rg 5 (M 35) t)), (0, .ref 30), (1, .int t), (2, .int w)]) (st' := [.int w, .int (mz_rg 5 (M 35) t), .ref 12]) rfl ?_
  refine mz_callV (As := [.int (mz_rg 5 (M 35) t), .int w]) (rest := []) C E' (f_Grid_get l D cA ρ hI (g := 12) (r := 13) (a := 14) (n := 64) rfl rfl rfl (by decide) M (mz_rg 5 (M 35) t) w) hy_X3_get wl_X2_143 rfl rfl rfl ⟨Nat.le_of_ble_eq_true rfl, Nat.le_of_ble_eq_true rfl⟩ ⟨Nat.le_refl _, Nat.le_refl _⟩ (Nat.le_of_ble_eq_true rfl) (by decide +kernel) ?_ rfl
  refine mz_go FLX2 KLX2 C [(24, .istore 4), (26, .iload 4), (28, .iconst (-1))] (by decide +kernel) (pc' := 29) (L' := [(4, .int (mz_gg 64 (M 12 0) (M 14) (mz_rg 5 (M 35) t) w)), (3, .int (mz_rg 5 (M 35) t)), (0, .ref 30), (1, .int t), (2, .int w)]) (st' := [.int (-1), .int (mz_gg 64 (M 12 0) (M 14) (mz_rg 5 (M 35) t) w)]) rfl ?_
  refine mz_ieq (off := 19) (tgt := 48) C (by decide +kernel) (by decide) (fun h1 => ?_) (fun h1 => ?_)
  · exact mz_vret C E (by decide +kernel) (by unfold g_X2_moveTrack; rw [if_pos h1]; try rfl)
  · refine mz_go FLX2 KLX2 C [(32, .iload 4), (34, .iload_n 3)] (by decide +kernel) (pc' := 35) (L' := [(4, .int (mz_gg 64 (M 12 0) (M 14) (mz_rg 5 (M 35) t) w)), (3, .int (mz_rg 5 (M 35) t)), (0, .ref 30), (1, .int t), (2, .int w)]) (st' := [.int (mz_rg 5 (M 35) t), .int (mz_gg 64 (M 12 0) (M 14) (mz_rg 5 (M 35) t) w)]) rfl ?_
    refine mz_ieq (off := 13) (tgt := 48) C (by decide +kernel) (by decide) (fun h2 => ?_) (fun h2 => ?_)
    · exact mz_vret C E (by decide +kernel) (by unfold g_X2_moveTrack; rw [if_neg h1, if_pos h2]; try rfl)
    · refine mz_go FLX2 KLX2 C [(38, .aload_n 0), (39, .getfield 33), (42, .iload_n 1), (43, .iload 4)] (by decide +kernel) (pc' := 45) (L' := [(4, .int (mz_gg 64 (M 12 0) (M 14) (mz_rg 5 (M 35) t) w)), (3, .int (mz_rg 5 (M 35) t)), (0, .ref 30), (1, .int t), (2, .int w)]) (st' := [.int (mz_gg 64 (M 12 0) (M 14) (mz_rg 5 (M 35) t) w), .int t, .ref 33]) rfl ?_
      refine mz_callV (As := [.int t, .int (mz_gg 64 (M 12 0) (M 14) (mz_rg 5 (M 35) t) w)]) (rest := []) C E' (f_X1_walk l D cA ρ hI M t (mz_gg 64 (M 12 0) (M 14) (mz_rg 5 (M 35) t) w)) hy_X1_walk wl_X2_146 rfl rfl rfl ⟨Nat.le_of_ble_eq_true rfl, Nat.le_of_ble_eq_true rfl⟩ ⟨Nat.le_refl _, Nat.le_refl _⟩ (Nat.le_of_ble_eq_true rfl) (by decide +kernel) ?_ rfl
      exact mz_vret C E (by decide +kernel) (by unfold g_X2_moveTrack; rw [if_neg h1, if_neg h2]; try rfl)
def g_X2_moveTracks_1 (M : mz_Mem) (i2 : Int32) (a3 : mz_Mem) : mz_Mem := if (mz_rg 5 (a3 37) i2) = (-1) then (if ((g_X8_busyTracks M) &&& (g_X1_rolesOf a3 i2)) = 0 then (if (g_X8_nextSceneOf a3 (g_X1_rolesOf a3 i2)) = (-1) then (g_X2_moveTrack a3 i2 (mz_rg 5 (a3 17) i2)) else (g_X2_moveTrack a3 i2 (mz_rg 12 (a3 21) (g_X8_nextSceneOf a3 (g_X1_rolesOf a3 i2))))) else a3) else a3
theorem g_X2_moveTracks_1_hs (M : mz_Mem) (i2 : Int32) (a3 : mz_Mem) : mz_hs a3 (g_X2_moveTracks_1 M i2 a3) := by
  unfold g_X2_moveTracks_1
  by_cases h1 : (mz_rg 5 (a3 37) i2) = (-1)
  · rw [if_pos h1]
    by_cases h2 : ((g_X8_busyTracks M) &&& (g_X1_rolesOf a3 i2)) = 0
    · rw [if_pos h2]
      by_cases h3 : (g_X8_nextSceneOf a3 (g_X1_rolesOf a3 i2)) = (-1)
      · rw [if_pos h3]
        exact g_X2_moveTrack_hs a3 i2 (mz_rg 5 (a3 17) i2)
      · rw [if_neg h3]
        exact g_X2_moveTrack_hs a3 i2 (mz_rg 12 (a3 21) (g_X8_nextSceneOf a3 (g_X1_rolesOf a3 i2)))
    · rw [if_neg h2]
      exact mz_hs_rf
  · rw [if_neg h1]
    exact mz_hs_rf

def g_X2_moveTracks (M : mz_Mem) : mz_Mem := (mz_fr (M 15 0) (g_X2_moveTracks_1 M) M)
theorem g_X2_moveTracks_hs (M : mz_Mem) : mz_hs M (g_X2_moveTracks M) := by
  unfold g_X2_moveTracks
  exact mz_hs_frp (fun (a : mz_Mem) => a) (fun i a => g_X2_moveTracks_1_hs M i a)

set_option maxHeartbeats 4000000 in
theorem f_X2_moveTracks (l : Launch) (D : va_G) (cA : ClassId) (ρ : Nat → Nat) (hI : mz_I ρ mz_lay1) (M : mz_Mem) : mz_M l D vwCl cA ρ mz_lay1 yX2_moveTracks cX2_moveTracks 5 none 4 92 [.ref 30] M none (g_X2_moveTracks M) := by
  refine mz_in0 (by decide +kernel) (Nat.le_of_ble_eq_true rfl) (fun Γ C E => ?_)
  have E' := (⟨_, _, _, E⟩ : ∃ Qc mc ms, mz_E Γ Qc mc ms (mz_A ρ mz_lay1))
  refine mz_go FLX2 KLX2 C [(0, .aload_n 0), (1, .getfield 40)] (by decide +kernel) (pc' := 4) (L' := [(0, .ref 30)]) (st' := [.ref 40]) rfl ?_
  refine mz_callV (As := []) (rest := []) C E' (f_X8_busyTracks l D cA ρ hI M ) hy_X8_busyTracks wl_X2_105 rfl rfl rfl ⟨Nat.le_of_ble_eq_true rfl, Nat.le_of_ble_eq_true rfl⟩ ⟨Nat.le_refl _, Nat.le_refl _⟩ (Nat.le_of_ble_eq_true rfl) (by decide +kernel) ?_ rfl
  refine mz_go FLX2 KLX2 C [(7, .istore_n 1), (8, .iconst 0), (9, .istore_n 2)] (by decide +kernel) (pc' := 10) (L' := [(2, .int 0), (1, .int (g_X8_busyTracks M)), (0, .ref 30)]) (st' := []) rfl ?_
  refine mz_sub (L' := [(0, .ref 30), (1, .int (g_X8_busyTracks M)), (2, .int 0)]) (by simp) ?_
  refine mz_loopI (M 15 0) (g_X2_moveTracks_1 M) (fun (i : Int32) (a : mz_Mem) => mz_W Γ ρ 5 0 0 (mz_H D vwCl cA ρ mz_lay1 a) 10 [(0, .ref 30), (1, .int (g_X8_busyTracks M)), (2, .int i)] []) (fun (a : mz_Mem) => a 15 0 = M 15 0) M rfl (fun i a h => ?_) (fun i2 a3 hi4 hv7 hx5 hb6 => ?_)
  · exact (congrFun (g_X2_moveTracks_1_hs M i a _ (by decide)) _).trans h
  have hv7 : a3 15 0 = M 15 0 := hv7
  refine mz_go FLX2 KLX2 C [(10, .iload_n 2), (11, .aload_n 0), (12, .getfield 24), (15, .getfield 109)] (by decide +kernel) (pc' := 18) (L' := [(0, .ref 30), (1, .int (g_X8_busyTracks M)), (2, .int i2)]) (st' := [.int (a3 15 0), .int i2]) rfl ?_
  refine mz_ige (off := 86) (tgt := 104) C (by decide +kernel) (by decide) (fun h1 => ?_) (fun h1 => ?_)
  · have e10 := hx5 (by rw [hv7] at h1; exact h1)
    subst e10
    refine mz_sub (L' := [(0, .ref 30), (1, .int (g_X8_busyTracks M))]) (by simp) ?_
    exact mz_vret C E (by decide +kernel) (rfl)
  · refine mz_go FLX2 KLX2 C [(21, .aload_n 0), (22, .getfield 33), (25, .iload_n 2)] (by decide +kernel) (pc' := 26) (L' := [(0, .ref 30), (1, .int (g_X8_busyTracks M)), (2, .int i2)]) (st' := [.int i2, .ref 33]) rfl ?_
    refine mz_callV (As := [.int i2]) (rest := []) C E' (f_X1_rolesOf l D cA ρ hI a3 i2) hy_X1_rolesOf wl_X2_114 rfl rfl rfl ⟨Nat.le_of_ble_eq_true rfl, Nat.le_of_ble_eq_true rfl⟩ ⟨Nat.le_refl _, Nat.le_refl _⟩ (Nat.le_of_ble_eq_true rfl) (by decide +kernel) ?_ rfl
    refine mz_go FLX2 KLX2 C [(29, .istore_n 3), (30, .aload_n 0), (31, .getfield 33), (34, .getfield 118), (37, .iload_n 2)] (by decide +kernel) (pc' := 38) (L' := [(3, .int (g_X1_rolesOf a3 i2)), (0, .ref 30), (1, .int (g_X8_busyTracks M)), (2, .int i2)]) (st' := [.int i2, .ref 36]) rfl ?_
    refine mz_callV (As := [.int i2]) (rest := []) C E' (f_Row_get l D cA ρ hI (r := 36) (a := 37) (n := 5) rfl rfl (by decide) a3 i2) hy_X6_get wl_X2_121 rfl rfl rfl ⟨Nat.le_of_ble_eq_true rfl, Nat.le_of_ble_eq_true rfl⟩ ⟨Nat.le_refl _, Nat.le_refl _⟩ (Nat.le_of_ble_eq_true rfl) (by decide +kernel) ?_ rfl
    refine mz_go FLX2 KLX2 C [(41, .iconst (-1))] (by decide +kernel) (pc' := 42) (L' := [(3, .int (g_X1_rolesOf a3 i2)), (0, .ref 30), (1, .int (g_X8_busyTracks M)), (2, .int i2)]) (st' := [.int (-1), .int (mz_rg 5 (a3 37) i2)]) rfl ?_
    refine mz_ine (off := 56) (tgt := 98) C (by decide +kernel) (by decide) (fun h11 => ?_) (fun h11 => ?_)
    · refine mz_go FLX2 KLX2 C [(98, .iinc 2 1), (101, .goto (-91))] (by decide +kernel) (pc' := 10) (L' := [(2, .int (i2 + 1)), (3, .int (g_X1_rolesOf a3 i2)), (0, .ref 30), (1, .int (g_X8_busyTracks M))]) (st' := []) rfl ?_
      have hb12 := hb6 (by rw [hv7] at h1; exact h1)
      rw [show g_X2_moveTracks_1 M i2 a3 = a3 from by unfold g_X2_moveTracks_1; rw [if_neg h11]] at hb12
      exact mz_sub (by simp) hb12
    · refine mz_go FLX2 KLX2 C [(45, .iload_n 1), (46, .iload_n 3), (47, .iand)] (by decide +kernel) (pc' := 48) (L' := [(3, .int (g_X1_rolesOf a3 i2)), (0, .ref 30), (1, .int (g_X8_busyTracks M)), (2, .int i2)]) (st' := [.int ((g_X8_busyTracks M) &&& (g_X1_rolesOf a3 i2))]) rfl ?_
      refine mz_zne (off := 50) (tgt := 98) C (by decide +kernel) (by decide) (fun h13 => ?_) (fun h13 => ?_)
      · refine mz_go FLX2 KLX2 C [(98, .iinc 2 1), (101, .goto (-91))] (by decide +kernel) (pc' := 10) (L' := [(2, .int (i2 + 1)), (3, .int (g_X1_rolesOf a3 i2)), (0, .ref 30), (1, .int (g_X8_busyTracks M))]) (st' := []) rfl ?_
        have hb14 := hb6 (by rw [hv7] at h1; exact h1)
        rw [show g_X2_moveTracks_1 M i2 a3 = a3 from by unfold g_X2_moveTracks_1; rw [if_pos h11, if_neg h13]] at hb14
        exact mz_sub (by simp) hb14
      · refine mz_go FLX2 KLX2 C [(51, .aload_n 0), (52, .getfield 40), (55, .iload_n 3)] (by decide +kernel) (pc' := 56) (L' := [(3, .int (g_X1_rolesOf a3 i2)), (0, .ref 30), (1, .int (g_X8_busyTracks M)), (2, .int i2)]) (st' := [.int (g_X1_rolesOf a3 i2), .ref 40]) rfl ?_
        refine mz_callV (As := [.int (g_X1_rolesOf a3 i2)]) (rest := []) C E' (f_X8_nextSceneOf l D cA ρ hI a3 (g_X1_rolesOf a3 i2)) hy_X8_nextSceneOf wl_X2_124 rfl rfl rfl ⟨Nat.le_of_ble_eq_true rfl, Nat.le_of_ble_eq_true rfl⟩ ⟨Nat.le_refl _, Nat.le_refl _⟩ (Nat.le_of_ble_eq_true rfl) (by decide +kernel) ?_ rfl
        refine mz_go FLX2 KLX2 C [(59, .istore 4), (61, .aload_n 0), (62, .iload_n 2), (63, .iload 4), (65, .iconst (-1))] (by decide +kernel) (pc' := 66) (L' := [(4, .int (g_X8_nextSceneOf a3 (g_X1_rolesOf a3 i2))), (3, .int (g_X1_rolesOf a3 i2)), (0, .ref 30), (1, .int (g_X8_busyTracks M)), (2, .int i2)]) (st' := [.int (-1), .int (g_X8_nextSceneOf a3 (g_X1_rolesOf a3 i2)), .int i2, .ref 30]) rfl ?_
        refine mz_ine (off := 17) (tgt := 83) C (by decide +kernel) (by decide) (fun h15 => ?_) (fun h15 => ?_)
        · refine mz_go FLX2 KLX2 C [(83, .aload_n 0), (84, .getfield 24), (87, .getfield 130), (90, .iload 4)] (by decide +kernel) (pc' := 92) (L' := [(4, .int (g_X8_nextSceneOf a3 (g_X1_rolesOf a3 i2))), (3, .int (g_X1_rolesOf a3 i2)), (0, .ref 30), (1, .int (g_X8_busyTracks M)), (2, .int i2)]) (st' := [.int (g_X8_nextSceneOf a3 (g_X1_rolesOf a3 i2)), .ref 20, .int i2, .ref 30]) rfl ?_
          refine mz_callV (As := [.int (g_X8_nextSceneOf a3 (g_X1_rolesOf a3 i2))]) (rest := [.int i2, .ref 30]) C E' (f_Row_get l D cA ρ hI (r := 20) (a := 21) (n := 12) rfl rfl (by decide) a3 (g_X8_nextSceneOf a3 (g_X1_rolesOf a3 i2))) hy_X6_get wl_X2_121 rfl rfl rfl ⟨Nat.le_of_ble_eq_true rfl, Nat.le_of_ble_eq_true rfl⟩ ⟨Nat.le_refl _, Nat.le_refl _⟩ (Nat.le_of_ble_eq_true rfl) (by decide +kernel) ?_ rfl
          refine mz_callV (As := [.int i2, .int (mz_rg 12 (a3 21) (g_X8_nextSceneOf a3 (g_X1_rolesOf a3 i2)))]) (rest := []) C E' (f_X2_moveTrack l D cA ρ hI a3 i2 (mz_rg 12 (a3 21) (g_X8_nextSceneOf a3 (g_X1_rolesOf a3 i2)))) hy_X2_moveTrack wl_X2_133 rfl rfl rfl ⟨Nat.le_of_ble_eq_true rfl, Nat.le_of_ble_eq_true rfl⟩ ⟨Nat.le_refl _, Nat.le_refl _⟩ (Nat.le_of_ble_eq_true rfl) (by decide +kernel) ?_ rfl
          refine mz_go FLX2 KLX2 C [(98, .iinc 2 1), (101, .goto (-91))] (by decide +kernel) (pc' := 10) (L' := [(2, .int (i2 + 1)), (4, .int (g_X8_nextSceneOf a3 (g_X1_rolesOf a3 i2))), (3, .int (g_X1_rolesOf a3 i2)), (0, .ref 30), (1, .int (g_X8_busyTracks M))]) (st' := []) rfl ?_
          have hb16 := hb6 (by rw [hv7] at h1; exact h1)
          rw [show g_X2_moveTracks_1 M i2 a3 = (g_X2_moveTrack a3 i2 (mz_rg 12 (a3 21) (g_X8_nextSceneOf a3 (g_X1_rolesOf a3 i2)))) from by unfold g_X2_moveTracks_1; rw [if_pos h11, if_pos h13, if_neg h15]] at hb16
          exact mz_sub (by simp) hb16
        · refine mz_go FLX2 KLX2 C [(69, .aload_n 0), (70, .getfield 24), (73, .getfield 127), (76, .iload_n 2)] (by decide +kernel) (pc' := 77) (L' := [(4, .int (g_X8_nextSceneOf a3 (g_X1_rolesOf a3 i2))), (3, .int (g_X1_rolesOf a3 i2)), (0, .ref 30), (1, .int (g_X8_busyTracks M)), (2, .int i2)]) (st' := [.int i2, .ref 16, .int i2, .ref 30]) rfl ?_
          refine mz_callV (As := [.int i2]) (rest := [.int i2, .ref 30]) C E' (f_Row_get l D cA ρ hI (r := 16) (a := 17) (n := 5) rfl rfl (by decide) a3 i2) hy_X6_get wl_X2_121 rfl rfl rfl ⟨Nat.le_of_ble_eq_true rfl, Nat.le_of_ble_eq_true rfl⟩ ⟨Nat.le_refl _, Nat.le_refl _⟩ (Nat.le_of_ble_eq_true rfl) (by decide +kernel) ?_ rfl
          refine mz_go FLX2 KLX2 C [(80, .goto 15)] (by decide +kernel) (pc' := 95) (L' := [(4, .int (g_X8_nextSceneOf a3 (g_X1_rolesOf a3 i2))), (3, .int (g_X1_rolesOf a3 i2)), (0, .ref 30), (1, .int (g_X8_busyTracks M)), (2, .int i2)]) (st' := [.int (mz_rg 5 (a3 17) i2), .int i2, .ref 30]) rfl ?_
          refine mz_callV (As := [.int i2, .int (mz_rg 5 (a3 17) i2)]) (rest := []) C E' (f_X2_moveTrack l D cA ρ hI a3 i2 (mz_rg 5 (a3 17) i2)) hy_X2_moveTrack wl_X2_133 rfl rfl rfl ⟨Nat.le_of_ble_eq_true rfl, Nat.le_of_ble_eq_true rfl⟩ ⟨Nat.le_refl _, Nat.le_refl _⟩ (Nat.le_of_ble_eq_true rfl) (by decide +kernel) ?_ rfl
          refine mz_go FLX2 KLX2 C [(98, .iinc 2 1), (101, .goto (-91))] (by decide +kernel) (pc' := 10) (L' := [(2, .int (i2 + 1)), (4, .int (g_X8_nextSceneOf a3 (g_X1_rolesOf a3 i2))), (3, .int (g_X1_rolesOf a3 i2)), (0, .ref 30), (1, .int (g_X8_busyTracks M))]) (st' := []) rfl ?_
          have hb17 := hb6 (by rw [hv7] at h1; exact h1)
          rw [show g_X2_moveTracks_1 M i2 a3 = (g_X2_moveTrack a3 i2 (mz_rg 5 (a3 17) i2)) from by unfold g_X2_moveTracks_1; rw [if_pos h11, if_pos h13, if_pos h15]] at hb17
          exact mz_sub (by simp) hb17
def g_X2_greatestTrack_1 (M : mz_Mem) (s : Int32) (i2 : Int32) (a3 : Int32) : Int32 := if (s &&& (1 <<< (i2 &&& 31))) = 0 then a3 else i2
def g_X2_greatestTrack (M : mz_Mem) (s : Int32) : Int32 := (mz_fr (M 15 0) (g_X2_greatestTrack_1 M s) (-1))
set_option maxHeartbeats 4000000 in
theorem f_X2_greatestTrack (l : Launch) (D : va_G) (cA : ClassId) (ρ : Nat → Nat) (hI : mz_I ρ mz_lay1) (M : mz_Mem) (s : Int32) : mz_M l D vwCl cA ρ mz_lay1 yX2_greatestTrack cX2_greatestTrack 4 (some .int) 0 0 [.ref 30, .int s] M (some (.int (g_X2_greatestTrack M s))) M := by
  refine mz_in0 (by decide +kernel) (Nat.le_of_ble_eq_true rfl) (fun Γ C E => ?_)
  have E' := (⟨_, _, _, E⟩ : ∃ Qc mc ms, mz_E Γ Qc mc ms (mz_A ρ mz_lay1))
  refine mz_go FLX2 KLX2 C [(0, .iconst (-1)), (1, .istore_n 2), (2, .iconst 0), (3, .istore_n 3)] (by decide +kernel) (pc' := 4) (L' := [(3, .int 0), (2, .int (-1)), (0, .ref 30), (1, .int s)]) (st' := []) rfl ?_
  refine mz_sub (L' := [(0, .ref 30), (1, .int s), (2, .int (-1)), (3, .int 0)]) (by simp) ?_
  refine mz_loop (M 15 0) (g_X2_greatestTrack_1 M s) (fun (i : Int32) (a : Int32) => mz_W Γ ρ 4 0 0 (mz_H D vwCl cA ρ mz_lay1 M) 4 [(0, .ref 30), (1, .int s), (2, .int a), (3, .int i)] []) (-1) (fun i2 a3 hi4 hx5 hb6 => ?_)
  refine mz_go FLX2 KLX2 C [(4, .iload_n 3), (5, .aload_n 0), (6, .getfield 24), (9, .getfield 109)] (by decide +kernel) (pc' := 12) (L' := [(0, .ref 30), (1, .int s), (2, .int a3), (3, .int i2)]) (st' := [.int (M 15 0), .int i2]) rfl ?_
  refine mz_ige (off := 19) (tgt := 31) C (by decide +kernel) (by decide) (fun h1 => ?_) (fun h1 => ?_)
  · have e10 := hx5 h1
    subst e10
    refine mz_sub (L' := [(0, .ref 30), (1, .int s), (2, .int (mz_fr (M 15 0) (g_X2_greatestTrack_1 M s) (-1)))]) (by simp) ?_
    refine mz_go FLX2 KLX2 C [(31, .iload_n 2)] (by decide +kernel) (pc' := 32) (L' := [(0, .ref 30), (1, .int s), (2, .int (mz_fr (M 15 0) (g_X2_greatestTrack_1 M s) (-1)))]) (st' := [.int (mz_fr (M 15 0) (g_X2_greatestTrack_1 M s) (-1))]) rfl ?_
    exact mz_iret C E (by decide +kernel) (rfl) (rfl)
  · refine mz_go FLX2 KLX2 C [(15, .iload_n 1), (16, .iconst 1), (17, .iload_n 3), (18, .ishl), (19, .iand)] (by decide +kernel) (pc' := 20) (L' := [(0, .ref 30), (1, .int s), (2, .int a3), (3, .int i2)]) (st' := [.int (s &&& (1 <<< (i2 &&& 31)))]) rfl ?_
    refine mz_zeq (off := 5) (tgt := 25) C (by decide +kernel) (by decide) (fun h11 => ?_) (fun h11 => ?_)
    · refine mz_go FLX2 KLX2 C [(25, .iinc 3 1), (28, .goto (-24))] (by decide +kernel) (pc' := 4) (L' := [(3, .int (i2 + 1)), (0, .ref 30), (1, .int s), (2, .int a3)]) (st' := []) rfl ?_
      have hb12 := hb6 h1
      rw [show g_X2_greatestTrack_1 M s i2 a3 = a3 from by unfold g_X2_greatestTrack_1; rw [if_pos h11]] at hb12
      exact mz_sub (by simp) hb12
    · refine mz_go FLX2 KLX2 C [(23, .iload_n 3), (24, .istore_n 2), (25, .iinc 3 1), (28, .goto (-24))] (by decide +kernel) (pc' := 4) (L' := [(3, .int (i2 + 1)), (2, .int i2), (0, .ref 30), (1, .int s)]) (st' := []) rfl ?_
      have hb13 := hb6 h1
      rw [show g_X2_greatestTrack_1 M s i2 a3 = i2 from by unfold g_X2_greatestTrack_1; rw [if_neg h11]] at hb13
      exact mz_sub (by simp) hb13
def g_X2_continueScene (M : mz_Mem) (k : Int32) : mz_Mem := if (mz_rg 12 ((g_X8_goOn M k) 29) k) = (-1) then (g_X8_goOn M k) else if (g_X8_runs (g_X8_goOn M k) k) = 0 then (g_X5_giveToTrack (g_X8_goOn M k) (mz_rg 12 ((g_X8_goOn M k) 29) k) (g_X2_greatestTrack (g_X8_goOn M k) (mz_rg 12 ((g_X8_goOn M k) 27) k))) else (g_X8_goOn M k)
theorem g_X2_continueScene_hs (M : mz_Mem) (k : Int32) : mz_hs M (g_X2_continueScene M k) := by
  unfold g_X2_continueScene
  by_cases h1 : (mz_rg 12 ((g_X8_goOn M k) 29) k) = (-1)
  · rw [if_pos h1]
    exact g_X8_goOn_hs M k
  · rw [if_neg h1]
    by_cases h2 : (g_X8_runs (g_X8_goOn M k) k) = 0
    · rw [if_pos h2]
      exact (g_X8_goOn_hs M k).trans (g_X5_giveToTrack_hs (g_X8_goOn M k) (mz_rg 12 ((g_X8_goOn M k) 29) k) (g_X2_greatestTrack (g_X8_goOn M k) (mz_rg 12 ((g_X8_goOn M k) 27) k)))
    · rw [if_neg h2]
      exact g_X8_goOn_hs M k

set_option maxHeartbeats 4000000 in
theorem f_X2_continueScene (l : Launch) (D : va_G) (cA : ClassId) (ρ : Nat → Nat) (hI : mz_I ρ mz_lay1) (M : mz_Mem) (k : Int32) : mz_M l D vwCl cA ρ mz_lay1 yX2_continueScene cX2_continueScene 3 none 3 66 [.ref 30, .int k] M none (g_X2_continueScene M k) := by
  refine mz_in0 (by decide +kernel) (Nat.le_of_ble_eq_true rfl) (fun Γ C E => ?_)
  have E' := (⟨_, _, _, E⟩ : ∃ Qc mc ms, mz_E Γ Qc mc ms (mz_A ρ mz_lay1))
  refine mz_go FLX2 KLX2 C [(0, .aload_n 0), (1, .getfield 40), (4, .iload_n 1)] (by decide +kernel) (pc' := 5) (L' := [(0, .ref 30), (1, .int k)]) (st' := [.int k, .ref 40]) rfl ?_
  refine mz_callV (As := [.int k]) (rest := []) C E' (f_X8_goOn l D cA ρ hI M k) hy_X8_goOn wl_X2_174 rfl rfl rfl ⟨Nat.le_of_ble_eq_true rfl, Nat.le_of_ble_eq_true rfl⟩ ⟨Nat.le_refl _, Nat.le_refl _⟩ (Nat.le_of_ble_eq_true rfl) (by decide +kernel) ?_ rfl
  refine mz_go FLX2 KLX2 C [(8, .aload_n 0), (9, .getfield 24), (12, .getfield 177), (15, .iload_n 1)] (by decide +kernel) (pc' := 16) (L' := [(0, .ref 30), (1, .int k)]) (st' := [.int k, .ref 28]) rfl ?_
  refine mz_callV (As := [.int k]) (rest := []) C E' (f_Row_get l D cA ρ hI (r := 28) (a := 29) (n := 12) rfl rfl (by decide) (g_X8_goOn M k) k) hy_X6_get wl_X2_121 rfl rfl rfl ⟨Nat.le_of_ble_eq_true rfl, Nat.le_of_ble_eq_true rfl⟩ ⟨Nat.le_refl _, Nat.le_refl _⟩ (Nat.le_of_ble_eq_true rfl) (by decide +kernel) ?_ rfl
  refine mz_go FLX2 KLX2 C [(19, .istore_n 2), (20, .iload_n 2), (21, .iconst (-1))] (by decide +kernel) (pc' := 22) (L' := [(2, .int (mz_rg 12 ((g_X8_goOn M k) 29) k)), (0, .ref 30), (1, .int k)]) (st' := [.int (-1), .int (mz_rg 12 ((g_X8_goOn M k) 29) k)]) rfl ?_
  refine mz_ieq (off := 37) (tgt := 59) C (by decide +kernel) (by decide) (fun h1 => ?_) (fun h1 => ?_)
  · exact mz_vret C E (by decide +kernel) (by unfold g_X2_continueScene; rw [if_pos h1]; try rfl)
  · refine mz_go FLX2 KLX2 C [(25, .aload_n 0), (26, .getfield 40), (29, .iload_n 1)] (by decide +kernel) (pc' := 30) (L' := [(2, .int (mz_rg 12 ((g_X8_goOn M k) 29) k)), (0, .ref 30), (1, .int k)]) (st' := [.int k, .ref 40]) rfl ?_
    refine mz_callV (As := [.int k]) (rest := []) C E' (f_X8_runs l D cA ρ hI (g_X8_goOn M k) k) hy_X8_runs wl_X2_152 rfl rfl rfl ⟨Nat.le_of_ble_eq_true rfl, Nat.le_of_ble_eq_true rfl⟩ ⟨Nat.le_refl _, Nat.le_refl _⟩ (Nat.le_of_ble_eq_true rfl) (by decide +kernel) ?_ rfl
    refine mz_zne (off := 26) (tgt := 59) C (by decide +kernel) (by decide) (fun h2 => ?_) (fun h2 => ?_)
    · exact mz_vret C E (by decide +kernel) (by unfold g_X2_continueScene; rw [if_neg h1, if_neg h2]; try rfl)
    · refine mz_go FLX2 KLX2 C [(36, .aload_n 0), (37, .getfield 47), (40, .iload_n 2), (41, .aload_n 0), (42, .aload_n 0), (43, .getfield 24), (46, .getfield 180), (49, .iload_n 1)] (by decide +kernel) (pc' := 50) (L' := [(2, .int (mz_rg 12 ((g_X8_goOn M k) 29) k)), (0, .ref 30), (1, .int k)]) (st' := [.int k, .ref 26, .ref 30, .int (mz_rg 12 ((g_X8_goOn M k) 29) k), .ref 51]) rfl ?_
      refine mz_callV (As := [.int k]) (rest := [.ref 30, .int (mz_rg 12 ((g_X8_goOn M k) 29) k), .ref 51]) C E' (f_Row_get l D cA ρ hI (r := 26) (a := 27) (n := 12) rfl rfl (by decide) (g_X8_goOn M k) k) hy_X6_get wl_X2_121 rfl rfl rfl ⟨Nat.le_of_ble_eq_true rfl, Nat.le_of_ble_eq_true rfl⟩ ⟨Nat.le_refl _, Nat.le_refl _⟩ (Nat.le_of_ble_eq_true rfl) (by decide +kernel) ?_ rfl
      refine mz_callV (As := [.int (mz_rg 12 ((g_X8_goOn M k) 27) k)]) (rest := [.int (mz_rg 12 ((g_X8_goOn M k) 29) k), .ref 51]) C E' (f_X2_greatestTrack l D cA ρ hI (g_X8_goOn M k) (mz_rg 12 ((g_X8_goOn M k) 27) k)) hy_X2_greatestTrack wl_X2_183 rfl rfl rfl ⟨Nat.le_of_ble_eq_true rfl, Nat.le_of_ble_eq_true rfl⟩ ⟨Nat.le_refl _, Nat.le_refl _⟩ (Nat.le_of_ble_eq_true rfl) (by decide +kernel) ?_ rfl
      refine mz_callV (As := [.int (mz_rg 12 ((g_X8_goOn M k) 29) k), .int (g_X2_greatestTrack (g_X8_goOn M k) (mz_rg 12 ((g_X8_goOn M k) 27) k))]) (rest := []) C E' (f_X5_giveToTrack l D cA ρ hI (g_X8_goOn M k) (mz_rg 12 ((g_X8_goOn M k) 29) k) (g_X2_greatestTrack (g_X8_goOn M k) (mz_rg 12 ((g_X8_goOn M k) 27) k))) hy_X5_giveToTrack wl_X2_186 rfl rfl rfl ⟨Nat.le_of_ble_eq_true rfl, Nat.le_of_ble_eq_true rfl⟩ ⟨Nat.le_refl _, Nat.le_refl _⟩ (Nat.le_of_ble_eq_true rfl) (by decide +kernel) ?_ rfl
      exact mz_vret C E (by decide +kernel) (by unfold g_X2_continueScene; rw [if_neg h1, if_pos h2]; try rfl)
def g_X2_hasProp (M : mz_Mem) (k : Int32) : Int32 := if (mz_rg 12 (M 29) k) = (-1) then 1 else if (mz_rg 4 (M 53) (mz_rg 12 (M 29) k)) = (mz_rg 12 (M 21) k) then 1 else if (mz_rg 4 (M 55) (mz_rg 12 (M 29) k)) = (-1) then 0 else if (g_X7_has M k (1 <<< ((mz_rg 4 (M 55) (mz_rg 12 (M 29) k)) &&& 31))) = 0 then 0 else 1
set_option maxHeartbeats 4000000 in
theorem f_X2_hasProp (l : Launch) (D : va_G) (cA : ClassId) (ρ : Nat → Nat) (hI : mz_I ρ mz_lay1) (M : mz_Mem) (k : Int32) : mz_M l D vwCl cA ρ mz_lay1 yX2_hasProp cX2_hasProp 4 (some .boolean) 2 43 [.ref 30, .int k] M (some (.int (g_X2_hasProp M k))) M := by
  refine mz_in0 (by decide +kernel) (Nat.le_of_ble_eq_true rfl) (fun Γ C E => ?_)
  have E' := (⟨_, _, _, E⟩ : ∃ Qc mc ms, mz_E Γ Qc mc ms (mz_A ρ mz_lay1))
  refine mz_go FLX2 KLX2 C [(0, .aload_n 0), (1, .getfield 24), (4, .getfield 177), (7, .iload_n 1)] (by decide +kernel) (pc' := 8) (L' := [(0, .ref 30), (1, .int k)]) (st' := [.int k, .ref 28]) rfl ?_
  refine mz_callV (As := [.int k]) (rest := []) C E' (f_Row_get l D cA ρ hI (r := 28) (a := 29) (n := 12) rfl rfl (by decide) M k) hy_X6_get wl_X2_121 rfl rfl rfl ⟨Nat.le_of_ble_eq_true rfl, Nat.le_of_ble_eq_true rfl⟩ ⟨Nat.le_refl _, Nat.le_refl _⟩ (Nat.le_of_ble_eq_true rfl) (by decide +kernel) ?_ rfl
  refine mz_go FLX2 KLX2 C [(11, .istore_n 2), (12, .iload_n 2), (13, .iconst (-1))] (by decide +kernel) (pc' := 14) (L' := [(2, .int (mz_rg 12 (M 29) k)), (0, .ref 30), (1, .int k)]) (st' := [.int (-1), .int (mz_rg 12 (M 29) k)]) rfl ?_
  refine mz_ieq (off := 28) (tgt := 42) C (by decide +kernel) (by decide) (fun h1 => ?_) (fun h1 => ?_)
  · refine mz_go FLX2 KLX2 C [(42, .iconst 1)] (by decide +kernel) (pc' := 43) (L' := [(2, .int (mz_rg 12 (M 29) k)), (0, .ref 30), (1, .int k)]) (st' := [.int 1]) rfl ?_
    exact mz_zret C E (by decide +kernel) (Or.inr rfl) (by unfold g_X2_hasProp; rw [if_pos h1]; try rfl) (rfl)
  · refine mz_go FLX2 KLX2 C [(17, .aload_n 0), (18, .getfield 47), (21, .getfield 198), (24, .iload_n 2)] (by decide +kernel) (pc' := 25) (L' := [(2, .int (mz_rg 12 (M 29) k)), (0, .ref 30), (1, .int k)]) (st' := [.int (mz_rg 12 (M 29) k), .ref 52]) rfl ?_
    refine mz_callV (As := [.int (mz_rg 12 (M 29) k)]) (rest := []) C E' (f_Row_get l D cA ρ hI (r := 52) (a := 53) (n := 4) rfl rfl (by decide) M (mz_rg 12 (M 29) k)) hy_X6_get wl_X2_121 rfl rfl rfl ⟨Nat.le_of_ble_eq_true rfl, Nat.le_of_ble_eq_true rfl⟩ ⟨Nat.le_refl _, Nat.le_refl _⟩ (Nat.le_of_ble_eq_true rfl) (by decide +kernel) ?_ rfl
    refine mz_go FLX2 KLX2 C [(28, .aload_n 0), (29, .getfield 24), (32, .getfield 130), (35, .iload_n 1)] (by decide +kernel) (pc' := 36) (L' := [(2, .int (mz_rg 12 (M 29) k)), (0, .ref 30), (1, .int k)]) (st' := [.int k, .ref 20, .int (mz_rg 4 (M 53) (mz_rg 12 (M 29) k))]) rfl ?_
    refine mz_callV (As := [.int k]) (rest := [.int (mz_rg 4 (M 53) (mz_rg 12 (M 29) k))]) C E' (f_Row_get l D cA ρ hI (r := 20) (a := 21) (n := 12) rfl rfl (by decide) M k) hy_X6_get wl_X2_121 rfl rfl rfl ⟨Nat.le_of_ble_eq_true rfl, Nat.le_of_ble_eq_true rfl⟩ ⟨Nat.le_refl _, Nat.le_refl _⟩ (Nat.le_of_ble_eq_true rfl) (by decide +kernel) ?_ rfl
    refine mz_ine (off := 5) (tgt := 44) C (by decide +kernel) (by decide) (fun h2 => ?_) (fun h2 => ?_)
    · refine mz_go FLX2 KLX2 C [(44, .aload_n 0), (45, .getfield 47), (48, .getfield 199), (51, .iload_n 2)] (by decide +kernel) (pc' := 52) (L' := [(2, .int (mz_rg 12 (M 29) k)), (0, .ref 30), (1, .int k)]) (st' := [.int (mz_rg 12 (M 29) k), .ref 54]) rfl ?_
      refine mz_callV (As := [.int (mz_rg 12 (M 29) k)]) (rest := []) C E' (f_Row_get l D cA ρ hI (r := 54) (a := 55) (n := 4) rfl rfl (by decide) M (mz_rg 12 (M 29) k)) hy_X6_get wl_X2_121 rfl rfl rfl ⟨Nat.le_of_ble_eq_true rfl, Nat.le_of_ble_eq_true rfl⟩ ⟨Nat.le_refl _, Nat.le_refl _⟩ (Nat.le_of_ble_eq_true rfl) (by decide +kernel) ?_ rfl
      refine mz_go FLX2 KLX2 C [(55, .istore_n 3), (56, .iload_n 3), (57, .iconst (-1))] (by decide +kernel) (pc' := 58) (L' := [(3, .int (mz_rg 4 (M 55) (mz_rg 12 (M 29) k))), (2, .int (mz_rg 12 (M 29) k)), (0, .ref 30), (1, .int k)]) (st' := [.int (-1), .int (mz_rg 4 (M 55) (mz_rg 12 (M 29) k))]) rfl ?_
      refine mz_ieq (off := 21) (tgt := 79) C (by decide +kernel) (by decide) (fun h3 => ?_) (fun h3 => ?_)
      · refine mz_go FLX2 KLX2 C [(79, .iconst 0)] (by decide +kernel) (pc' := 80) (L' := [(3, .int (mz_rg 4 (M 55) (mz_rg 12 (M 29) k))), (2, .int (mz_rg 12 (M 29) k)), (0, .ref 30), (1, .int k)]) (st' := [.int 0]) rfl ?_
        exact mz_zret C E (by decide +kernel) (Or.inl rfl) (by unfold g_X2_hasProp; rw [if_neg h1, if_neg h2, if_pos h3]; try rfl) (rfl)
      · refine mz_go FLX2 KLX2 C [(61, .aload_n 0), (62, .getfield 24), (65, .iload_n 1), (66, .iconst 1), (67, .iload_n 3), (68, .ishl)] (by decide +kernel) (pc' := 69) (L' := [(3, .int (mz_rg 4 (M 55) (mz_rg 12 (M 29) k))), (2, .int (mz_rg 12 (M 29) k)), (0, .ref 30), (1, .int k)]) (st' := [.int (1 <<< ((mz_rg 4 (M 55) (mz_rg 12 (M 29) k)) &&& 31)), .int k, .ref 15]) rfl ?_
        refine mz_callV (As := [.int k, .int (1 <<< ((mz_rg 4 (M 55) (mz_rg 12 (M 29) k)) &&& 31))]) (rest := []) C E' (f_X7_has l D cA ρ hI M k (1 <<< ((mz_rg 4 (M 55) (mz_rg 12 (M 29) k)) &&& 31))) hy_X7_has wl_X2_202 rfl rfl rfl ⟨Nat.le_of_ble_eq_true rfl, Nat.le_of_ble_eq_true rfl⟩ ⟨Nat.le_refl _, Nat.le_refl _⟩ (Nat.le_of_ble_eq_true rfl) (by decide +kernel) ?_ rfl
        refine mz_zeq (off := 7) (tgt := 79) C (by decide +kernel) (by decide) (fun h4 => ?_) (fun h4 => ?_)
        · refine mz_go FLX2 KLX2 C [(79, .iconst 0)] (by decide +kernel) (pc' := 80) (L' := [(3, .int (mz_rg 4 (M 55) (mz_rg 12 (M 29) k))), (2, .int (mz_rg 12 (M 29) k)), (0, .ref 30), (1, .int k)]) (st' := [.int 0]) rfl ?_
          exact mz_zret C E (by decide +kernel) (Or.inl rfl) (by unfold g_X2_hasProp; rw [if_neg h1, if_neg h2, if_neg h3, if_pos h4]; try rfl) (rfl)
        · refine mz_go FLX2 KLX2 C [(75, .iconst 1), (76, .goto 4)] (by decide +kernel) (pc' := 80) (L' := [(3, .int (mz_rg 4 (M 55) (mz_rg 12 (M 29) k))), (2, .int (mz_rg 12 (M 29) k)), (0, .ref 30), (1, .int k)]) (st' := [.int 1]) rfl ?_
          exact mz_zret C E (by decide +kernel) (Or.inr rfl) (by unfold g_X2_hasProp; rw [if_neg h1, if_neg h2, if_neg h3, if_neg h4]; try rfl) (rfl)
    · refine mz_go FLX2 KLX2 C [(42, .iconst 1)] (by decide +kernel) (pc' := 43) (L' := [(2, .int (mz_rg 12 (M 29) k)), (0, .ref 30), (1, .int k)]) (st' := [.int 1]) rfl ?_
      exact mz_zret C E (by decide +kernel) (Or.inr rfl) (by unfold g_X2_hasProp; rw [if_neg h1, if_pos h2]; try rfl) (rfl)
def g_X2_canBegin (M : mz_Mem) (k : Int32) : Int32 := if ((mz_rg 12 (M 27) k) &&& ((g_X1_setIn M (mz_rg 12 (M 21) k)) ^^^ (-1))) = 0 then (if ((g_X1_withDoubles M (mz_rg 12 (M 27) k)) &&& (g_X8_busyTracks M)) = 0 then (if (g_X2_hasProp M k) = 0 then 0 else 1) else 0) else 0
set_option maxHeartbeats 4000000 in
theorem f_X2_canBegin (l : Launch) (D : va_G) (cA : ClassId) (ρ : Nat → Nat) (hI : mz_I ρ mz_lay1) (M : mz_Mem) (k : Int32) : mz_M l D vwCl cA ρ mz_lay1 yX2_canBegin cX2_canBegin 4 (some .boolean) 3 66 [.ref 30, .int k] M (some (.int (g_X2_canBegin M k))) M := by
  refine mz_in0 (by decide +kernel) (Nat.le_of_ble_eq_true rfl) (fun Γ C E => ?_)
  have E' := (⟨_, _, _, E⟩ : ∃ Qc mc ms, mz_E Γ Qc mc ms (mz_A ρ mz_lay1))
  refine mz_go FLX2 KLX2 C [(0, .aload_n 0), (1, .getfield 24), (4, .getfield 180), (7, .iload_n 1)] (by decide +kernel) (pc' := 8) (L' := [(0, .ref 30), (1, .int k)]) (st' := [.int k, .ref 26]) rfl ?_
  refine mz_callV (As := [.int k]) (rest := []) C E' (f_Row_get l D cA ρ hI (r := 26) (a := 27) (n := 12) rfl rfl (by decide) M k) hy_X6_get wl_X2_121 rfl rfl rfl ⟨Nat.le_of_ble_eq_true rfl, Nat.le_of_ble_eq_true rfl⟩ ⟨Nat.le_refl _, Nat.le_refl _⟩ (Nat.le_of_ble_eq_true rfl) (by decide +kernel) ?_ rfl
  refine mz_go FLX2 KLX2 C [(11, .istore_n 2), (12, .iload_n 2), (13, .aload_n 0), (14, .getfield 33), (17, .aload_n 0), (18, .getfield 24), (21, .getfield 130), (24, .iload_n 1)] (by decide +kernel) (pc' := 25) (L' := [(2, .int (mz_rg 12 (M 27) k)), (0, .ref 30), (1, .int k)]) (st' := [.int k, .ref 20, .ref 33, .int (mz_rg 12 (M 27) k)]) rfl ?_
  refine mz_callV (As := [.int k]) (rest := [.ref 33, .int (mz_rg 12 (M 27) k)]) C E' (f_Row_get l D cA ρ hI (r := 20) (a := 21) (n := 12) rfl rfl (by decide) M k) hy_X6_get wl_X2_121 rfl rfl rfl ⟨Nat.le_of_ble_eq_true rfl, Nat.le_of_ble_eq_true rfl⟩ ⟨Nat.le_refl _, Nat.le_refl _⟩ (Nat.le_of_ble_eq_true rfl) (by decide +kernel) ?_ rfl
  refine mz_callV (As := [.int (mz_rg 12 (M 21) k)]) (rest := [.int (mz_rg 12 (M 27) k)]) C E' (f_X1_setIn l D cA ρ hI M (mz_rg 12 (M 21) k)) hy_X1_setIn wl_X2_189 rfl rfl rfl ⟨Nat.le_of_ble_eq_true rfl, Nat.le_of_ble_eq_true rfl⟩ ⟨Nat.le_refl _, Nat.le_refl _⟩ (Nat.le_of_ble_eq_true rfl) (by decide +kernel) ?_ rfl
  refine mz_go FLX2 KLX2 C [(31, .iconst (-1)), (32, .ixor), (33, .iand)] (by decide +kernel) (pc' := 34) (L' := [(2, .int (mz_rg 12 (M 27) k)), (0, .ref 30), (1, .int k)]) (st' := [.int ((mz_rg 12 (M 27) k) &&& ((g_X1_setIn M (mz_rg 12 (M 21) k)) ^^^ (-1)))]) rfl ?_
  refine mz_zne (off := 7) (tgt := 41) C (by decide +kernel) (by decide) (fun h1 => ?_) (fun h1 => ?_)
  · refine mz_go FLX2 KLX2 C [(41, .iconst 0), (42, .istore_n 3), (43, .iload_n 3)] (by decide +kernel) (pc' := 44) (L' := [(3, .int 0), (2, .int (mz_rg 12 (M 27) k)), (0, .ref 30), (1, .int k)]) (st' := [.int 0]) rfl ?_
    refine mz_zeq (off := 34) (tgt := 78) C (by decide +kernel) (by decide) (fun _ => ?_) (fun h2 => absurd h2 (by decide))
    refine mz_go FLX2 KLX2 C [(78, .iconst 0)] (by decide +kernel) (pc' := 79) (L' := [(3, .int 0), (2, .int (mz_rg 12 (M 27) k)), (0, .ref 30), (1, .int k)]) (st' := [.int 0]) rfl ?_
    exact mz_zret C E (by decide +kernel) (Or.inl rfl) (by unfold g_X2_canBegin; rw [if_neg h1]; try rfl) (rfl)
  · refine mz_go FLX2 KLX2 C [(37, .iconst 1), (38, .goto 4), (42, .istore_n 3), (43, .iload_n 3)] (by decide +kernel) (pc' := 44) (L' := [(3, .int 1), (2, .int (mz_rg 12 (M 27) k)), (0, .ref 30), (1, .int k)]) (st' := [.int 1]) rfl ?_
    refine mz_zeq (off := 34) (tgt := 78) C (by decide +kernel) (by decide) (fun h3 => absurd h3 (by decide)) (fun _ => ?_)
    refine mz_go FLX2 KLX2 C [(47, .aload_n 0), (48, .getfield 33), (51, .iload_n 2)] (by decide +kernel) (pc' := 52) (L' := [(3, .int 1), (2, .int (mz_rg 12 (M 27) k)), (0, .ref 30), (1, .int k)]) (st' := [.int (mz_rg 12 (M 27) k), .ref 33]) rfl ?_
    refine mz_callV (As := [.int (mz_rg 12 (M 27) k)]) (rest := []) C E' (f_X1_withDoubles l D cA ρ hI M (mz_rg 12 (M 27) k)) hy_X1_withDoubles wl_X2_192 rfl rfl rfl ⟨Nat.le_of_ble_eq_true rfl, Nat.le_of_ble_eq_true rfl⟩ ⟨Nat.le_refl _, Nat.le_refl _⟩ (Nat.le_of_ble_eq_true rfl) (by decide +kernel) ?_ rfl
    refine mz_go FLX2 KLX2 C [(55, .aload_n 0), (56, .getfield 40)] (by decide +kernel) (pc' := 59) (L' := [(3, .int 1), (2, .int (mz_rg 12 (M 27) k)), (0, .ref 30), (1, .int k)]) (st' := [.ref 40, .int (g_X1_withDoubles M (mz_rg 12 (M 27) k))]) rfl ?_
    refine mz_callV (As := []) (rest := [.int (g_X1_withDoubles M (mz_rg 12 (M 27) k))]) C E' (f_X8_busyTracks l D cA ρ hI M ) hy_X8_busyTracks wl_X2_105 rfl rfl rfl ⟨Nat.le_of_ble_eq_true rfl, Nat.le_of_ble_eq_true rfl⟩ ⟨Nat.le_refl _, Nat.le_refl _⟩ (Nat.le_of_ble_eq_true rfl) (by decide +kernel) ?_ rfl
    refine mz_go FLX2 KLX2 C [(62, .iand)] (by decide +kernel) (pc' := 63) (L' := [(3, .int 1), (2, .int (mz_rg 12 (M 27) k)), (0, .ref 30), (1, .int k)]) (st' := [.int ((g_X1_withDoubles M (mz_rg 12 (M 27) k)) &&& (g_X8_busyTracks M))]) rfl ?_
    refine mz_zne (off := 15) (tgt := 78) C (by decide +kernel) (by decide) (fun h4 => ?_) (fun h4 => ?_)
    · refine mz_go FLX2 KLX2 C [(78, .iconst 0)] (by decide +kernel) (pc' := 79) (L' := [(3, .int 1), (2, .int (mz_rg 12 (M 27) k)), (0, .ref 30), (1, .int k)]) (st' := [.int 0]) rfl ?_
      exact mz_zret C E (by decide +kernel) (Or.inl rfl) (by unfold g_X2_canBegin; rw [if_pos h1, if_neg h4]; try rfl) (rfl)
    · refine mz_go FLX2 KLX2 C [(66, .aload_n 0), (67, .iload_n 1)] (by decide +kernel) (pc' := 68) (L' := [(3, .int 1), (2, .int (mz_rg 12 (M 27) k)), (0, .ref 30), (1, .int k)]) (st' := [.int k, .ref 30]) rfl ?_
      refine mz_callV (As := [.int k]) (rest := []) C E' (f_X2_hasProp l D cA ρ hI M k) hy_X2_hasProp wl_X2_195 rfl rfl rfl ⟨Nat.le_of_ble_eq_true rfl, Nat.le_of_ble_eq_true rfl⟩ ⟨Nat.le_refl _, Nat.le_refl _⟩ (Nat.le_of_ble_eq_true rfl) (by decide +kernel) ?_ rfl
      refine mz_zeq (off := 7) (tgt := 78) C (by decide +kernel) (by decide) (fun h5 => ?_) (fun h5 => ?_)
      · refine mz_go FLX2 KLX2 C [(78, .iconst 0)] (by decide +kernel) (pc' := 79) (L' := [(3, .int 1), (2, .int (mz_rg 12 (M 27) k)), (0, .ref 30), (1, .int k)]) (st' := [.int 0]) rfl ?_
        exact mz_zret C E (by decide +kernel) (Or.inl rfl) (by unfold g_X2_canBegin; rw [if_pos h1, if_pos h4, if_pos h5]; try rfl) (rfl)
      · refine mz_go FLX2 KLX2 C [(74, .iconst 1), (75, .goto 4)] (by decide +kernel) (pc' := 79) (L' := [(3, .int 1), (2, .int (mz_rg 12 (M 27) k)), (0, .ref 30), (1, .int k)]) (st' := [.int 1]) rfl ?_
        exact mz_zret C E (by decide +kernel) (Or.inr rfl) (by unfold g_X2_canBegin; rw [if_pos h1, if_pos h4, if_neg h5]; try rfl) (rfl)
def g_X2_performScenes_1 (M : mz_Mem) (i2 : Int32) (a3 : mz_Mem) : mz_Mem := if (g_X8_runs a3 i2) = 0 then (if (g_X8_waits a3 i2) = 0 then a3 else if ((M 30 7) - (M 30 7) / 20 * 20) < (mz_rg 12 (a3 23) i2) then a3 else if (g_X2_canBegin a3 i2) = 0 then (g_X8_delay a3 i2) else (g_X8_begin a3 i2)) else (g_X2_continueScene a3 i2)
theorem g_X2_performScenes_1_hs (M : mz_Mem) (i2 : Int32) (a3 : mz_Mem) : mz_hs a3 (g_X2_performScenes_1 M i2 a3) := by
  unfold g_X2_performScenes_1
  by_cases h1 : (g_X8_runs a3 i2) = 0
  · rw [if_pos h1]
    by_cases h2 : (g_X8_waits a3 i2) = 0
    · rw [if_pos h2]
      exact mz_hs_rf
    · rw [if_neg h2]
      by_cases h3 : ((M 30 7) - (M 30 7) / 20 * 20) < (mz_rg 12 (a3 23) i2)
      · rw [if_pos h3]
        exact mz_hs_rf
      · rw [if_neg h3]
        by_cases h4 : (g_X2_canBegin a3 i2) = 0
        · rw [if_pos h4]
          exact g_X8_delay_hs a3 i2
        · rw [if_neg h4]
          exact g_X8_begin_hs a3 i2
  · rw [if_neg h1]
    exact g_X2_continueScene_hs a3 i2

def g_X2_performScenes (M : mz_Mem) : mz_Mem := (mz_fr (M 15 2) (g_X2_performScenes_1 M) M)
theorem g_X2_performScenes_hs (M : mz_Mem) : mz_hs M (g_X2_performScenes M) := by
  unfold g_X2_performScenes
  exact mz_hs_frp (fun (a : mz_Mem) => a) (fun i a => g_X2_performScenes_1_hs M i a)

set_option maxHeartbeats 4000000 in
theorem f_X2_performScenes (l : Launch) (D : va_G) (cA : ClassId) (ρ : Nat → Nat) (hI : mz_I ρ mz_lay1) (M : mz_Mem) : mz_M l D vwCl cA ρ mz_lay1 yX2_performScenes cX2_performScenes 3 none 4 89 [.ref 30] M none (g_X2_performScenes M) := by
  refine mz_in0 (by decide +kernel) (Nat.le_of_ble_eq_true rfl) (fun Γ C E => ?_)
  have E' := (⟨_, _, _, E⟩ : ∃ Qc mc ms, mz_E Γ Qc mc ms (mz_A ρ mz_lay1))
  refine mz_go FLX2 KLX2 C [(0, .aload_n 0), (1, .getfield 58), (4, .bipush 20)] (by decide +kernel) (pc' := 6) (L' := [(0, .ref 30)]) (st' := [.int 20, .int (M 30 7)]) rfl ?_
  refine mz_irem C (by decide) (by decide +kernel) ?_
  refine mz_go FLX2 KLX2 C [(7, .istore_n 1), (8, .iconst 0), (9, .istore_n 2)] (by decide +kernel) (pc' := 10) (L' := [(2, .int 0), (1, .int ((M 30 7) - (M 30 7) / 20 * 20)), (0, .ref 30)]) (st' := []) rfl ?_
  refine mz_sub (L' := [(0, .ref 30), (1, .int ((M 30 7) - (M 30 7) / 20 * 20)), (2, .int 0)]) (by simp) ?_
  refine mz_loopI (M 15 2) (g_X2_performScenes_1 M) (fun (i : Int32) (a : mz_Mem) => mz_W Γ ρ 3 0 0 (mz_H D vwCl cA ρ mz_lay1 a) 10 [(0, .ref 30), (1, .int ((M 30 7) - (M 30 7) / 20 * 20)), (2, .int i)] []) (fun (a : mz_Mem) => a 15 2 = M 15 2) M rfl (fun i a h => ?_) (fun i2 a3 hi4 hv7 hx5 hb6 => ?_)
  · exact (congrFun (g_X2_performScenes_1_hs M i a _ (by decide)) _).trans h
  have hv7 : a3 15 2 = M 15 2 := hv7
  refine mz_go FLX2 KLX2 C [(10, .iload_n 2), (11, .aload_n 0), (12, .getfield 24), (15, .getfield 149)] (by decide +kernel) (pc' := 18) (L' := [(0, .ref 30), (1, .int ((M 30 7) - (M 30 7) / 20 * 20)), (2, .int i2)]) (st' := [.int (a3 15 2), .int i2]) rfl ?_
  refine mz_ige (off := 81) (tgt := 99) C (by decide +kernel) (by decide) (fun h1 => ?_) (fun h1 => ?_)
  · have e10 := hx5 (by rw [hv7] at h1; exact h1)
    subst e10
    refine mz_sub (L' := [(0, .ref 30), (1, .int ((M 30 7) - (M 30 7) / 20 * 20))]) (by simp) ?_
    exact mz_vret C E (by decide +kernel) (rfl)
  · refine mz_go FLX2 KLX2 C [(21, .aload_n 0), (22, .getfield 40), (25, .iload_n 2)] (by decide +kernel) (pc' := 26) (L' := [(0, .ref 30), (1, .int ((M 30 7) - (M 30 7) / 20 * 20)), (2, .int i2)]) (st' := [.int i2, .ref 40]) rfl ?_
    refine mz_callV (As := [.int i2]) (rest := []) C E' (f_X8_runs l D cA ρ hI a3 i2) hy_X8_runs wl_X2_152 rfl rfl rfl ⟨Nat.le_of_ble_eq_true rfl, Nat.le_of_ble_eq_true rfl⟩ ⟨Nat.le_refl _, Nat.le_refl _⟩ (Nat.le_of_ble_eq_true rfl) (by decide +kernel) ?_ rfl
    refine mz_zeq (off := 11) (tgt := 40) C (by decide +kernel) (by decide) (fun h11 => ?_) (fun h11 => ?_)
    · refine mz_go FLX2 KLX2 C [(40, .aload_n 0), (41, .getfield 40), (44, .iload_n 2)] (by decide +kernel) (pc' := 45) (L' := [(0, .ref 30), (1, .int ((M 30 7) - (M 30 7) / 20 * 20)), (2, .int i2)]) (st' := [.int i2, .ref 40]) rfl ?_
      refine mz_callV (As := [.int i2]) (rest := []) C E' (f_X8_waits l D cA ρ hI a3 i2) hy_X8_waits wl_X2_159 rfl rfl rfl ⟨Nat.le_of_ble_eq_true rfl, Nat.le_of_ble_eq_true rfl⟩ ⟨Nat.le_refl _, Nat.le_refl _⟩ (Nat.le_of_ble_eq_true rfl) (by decide +kernel) ?_ rfl
      refine mz_zeq (off := 45) (tgt := 93) C (by decide +kernel) (by decide) (fun h12 => ?_) (fun h12 => ?_)
      · refine mz_go FLX2 KLX2 C [(93, .iinc 2 1), (96, .goto (-86))] (by decide +kernel) (pc' := 10) (L' := [(2, .int (i2 + 1)), (0, .ref 30), (1, .int ((M 30 7) - (M 30 7) / 20 * 20))]) (st' := []) rfl ?_
        have hb13 := hb6 (by rw [hv7] at h1; exact h1)
        rw [show g_X2_performScenes_1 M i2 a3 = a3 from by unfold g_X2_performScenes_1; rw [if_pos h11, if_pos h12]] at hb13
        exact mz_sub (by simp) hb13
      · refine mz_go FLX2 KLX2 C [(51, .aload_n 0), (52, .getfield 24), (55, .getfield 162), (58, .iload_n 2)] (by decide +kernel) (pc' := 59) (L' := [(0, .ref 30), (1, .int ((M 30 7) - (M 30 7) / 20 * 20)), (2, .int i2)]) (st' := [.int i2, .ref 22]) rfl ?_
        refine mz_callV (As := [.int i2]) (rest := []) C E' (f_Row_get l D cA ρ hI (r := 22) (a := 23) (n := 12) rfl rfl (by decide) a3 i2) hy_X6_get wl_X2_121 rfl rfl rfl ⟨Nat.le_of_ble_eq_true rfl, Nat.le_of_ble_eq_true rfl⟩ ⟨Nat.le_refl _, Nat.le_refl _⟩ (Nat.le_of_ble_eq_true rfl) (by decide +kernel) ?_ rfl
        refine mz_go FLX2 KLX2 C [(62, .iload_n 1)] (by decide +kernel) (pc' := 63) (L' := [(0, .ref 30), (1, .int ((M 30 7) - (M 30 7) / 20 * 20)), (2, .int i2)]) (st' := [.int ((M 30 7) - (M 30 7) / 20 * 20), .int (mz_rg 12 (a3 23) i2)]) rfl ?_
        refine mz_igt (off := 30) (tgt := 93) C (by decide +kernel) (by decide) (fun h14 => ?_) (fun h14 => ?_)
        · refine mz_go FLX2 KLX2 C [(93, .iinc 2 1), (96, .goto (-86))] (by decide +kernel) (pc' := 10) (L' := [(2, .int (i2 + 1)), (0, .ref 30), (1, .int ((M 30 7) - (M 30 7) / 20 * 20))]) (st' := []) rfl ?_
          have hb15 := hb6 (by rw [hv7] at h1; exact h1)
          rw [show g_X2_performScenes_1 M i2 a3 = a3 from by unfold g_X2_performScenes_1; rw [if_pos h11, if_neg h12, if_pos h14]] at hb15
          exact mz_sub (by simp) hb15
        · refine mz_go FLX2 KLX2 C [(66, .aload_n 0), (67, .iload_n 2)] (by decide +kernel) (pc' := 68) (L' := [(0, .ref 30), (1, .int ((M 30 7) - (M 30 7) / 20 * 20)), (2, .int i2)]) (st' := [.int i2, .ref 30]) rfl ?_
          refine mz_callV (As := [.int i2]) (rest := []) C E' (f_X2_canBegin l D cA ρ hI a3 i2) hy_X2_canBegin wl_X2_165 rfl rfl rfl ⟨Nat.le_of_ble_eq_true rfl, Nat.le_of_ble_eq_true rfl⟩ ⟨Nat.le_refl _, Nat.le_refl _⟩ (Nat.le_of_ble_eq_true rfl) (by decide +kernel) ?_ rfl
          refine mz_zeq (off := 14) (tgt := 85) C (by decide +kernel) (by decide) (fun h16 => ?_) (fun h16 => ?_)
          · refine mz_go FLX2 KLX2 C [(85, .aload_n 0), (86, .getfield 40), (89, .iload_n 2)] (by decide +kernel) (pc' := 90) (L' := [(0, .ref 30), (1, .int ((M 30 7) - (M 30 7) / 20 * 20)), (2, .int i2)]) (st' := [.int i2, .ref 40]) rfl ?_
            refine mz_callV (As := [.int i2]) (rest := []) C E' (f_X8_delay l D cA ρ hI a3 i2) hy_X8_delay wl_X2_171 rfl rfl rfl ⟨Nat.le_of_ble_eq_true rfl, Nat.le_of_ble_eq_true rfl⟩ ⟨Nat.le_refl _, Nat.le_refl _⟩ (Nat.le_of_ble_eq_true rfl) (by decide +kernel) ?_ rfl
            refine mz_go FLX2 KLX2 C [(93, .iinc 2 1), (96, .goto (-86))] (by decide +kernel) (pc' := 10) (L' := [(2, .int (i2 + 1)), (0, .ref 30), (1, .int ((M 30 7) - (M 30 7) / 20 * 20))]) (st' := []) rfl ?_
            have hb17 := hb6 (by rw [hv7] at h1; exact h1)
            rw [show g_X2_performScenes_1 M i2 a3 = (g_X8_delay a3 i2) from by unfold g_X2_performScenes_1; rw [if_pos h11, if_neg h12, if_neg h14, if_pos h16]] at hb17
            exact mz_sub (by simp) hb17
          · refine mz_go FLX2 KLX2 C [(74, .aload_n 0), (75, .getfield 40), (78, .iload_n 2)] (by decide +kernel) (pc' := 79) (L' := [(0, .ref 30), (1, .int ((M 30 7) - (M 30 7) / 20 * 20)), (2, .int i2)]) (st' := [.int i2, .ref 40]) rfl ?_
            refine mz_callV (As := [.int i2]) (rest := []) C E' (f_X8_begin l D cA ρ hI a3 i2) hy_X8_begin wl_X2_168 rfl rfl rfl ⟨Nat.le_of_ble_eq_true rfl, Nat.le_of_ble_eq_true rfl⟩ ⟨Nat.le_refl _, Nat.le_refl _⟩ (Nat.le_of_ble_eq_true rfl) (by decide +kernel) ?_ rfl
            refine mz_go FLX2 KLX2 C [(82, .goto 11), (93, .iinc 2 1), (96, .goto (-86))] (by decide +kernel) (pc' := 10) (L' := [(2, .int (i2 + 1)), (0, .ref 30), (1, .int ((M 30 7) - (M 30 7) / 20 * 20))]) (st' := []) rfl ?_
            have hb18 := hb6 (by rw [hv7] at h1; exact h1)
            rw [show g_X2_performScenes_1 M i2 a3 = (g_X8_begin a3 i2) from by unfold g_X2_performScenes_1; rw [if_pos h11, if_neg h12, if_neg h14, if_neg h16]] at hb18
            exact mz_sub (by simp) hb18
    · refine mz_go FLX2 KLX2 C [(32, .aload_n 0), (33, .iload_n 2)] (by decide +kernel) (pc' := 34) (L' := [(0, .ref 30), (1, .int ((M 30 7) - (M 30 7) / 20 * 20)), (2, .int i2)]) (st' := [.int i2, .ref 30]) rfl ?_
      refine mz_callV (As := [.int i2]) (rest := []) C E' (f_X2_continueScene l D cA ρ hI a3 i2) hy_X2_continueScene wl_X2_156 rfl rfl rfl ⟨Nat.le_of_ble_eq_true rfl, Nat.le_of_ble_eq_true rfl⟩ ⟨Nat.le_refl _, Nat.le_refl _⟩ (Nat.le_of_ble_eq_true rfl) (by decide +kernel) ?_ rfl
      refine mz_go FLX2 KLX2 C [(37, .goto 56), (93, .iinc 2 1), (96, .goto (-86))] (by decide +kernel) (pc' := 10) (L' := [(2, .int (i2 + 1)), (0, .ref 30), (1, .int ((M 30 7) - (M 30 7) / 20 * 20))]) (st' := []) rfl ?_
      have hb19 := hb6 (by rw [hv7] at h1; exact h1)
      rw [show g_X2_performScenes_1 M i2 a3 = (g_X2_continueScene a3 i2) from by unfold g_X2_performScenes_1; rw [if_neg h11]] at hb19
      exact mz_sub (by simp) hb19
end
section
def g_X2_isFull (M : mz_Mem) (r : Int32) : Int32 := if (mz_rg 8 (M 77) r) < (mz_rg 8 (M 3) r) then 0 else 1
set_option maxHeartbeats 4000000 in
theorem f_X2_isFull (l : Launch) (D : va_G) (cA : ClassId) (ρ : Nat → Nat) (hI : mz_I ρ mz_lay1) (M : mz_Mem) (r : Int32) : mz_M l D vwCl cA ρ mz_lay1 yX2_isFull cX2_isFull 2 (some .boolean) 1 21 [.ref 30, .int r] M (some (.int (g_X2_isFull M r))) M := by
  refine mz_in0 (by decide +kernel) (Nat.le_of_ble_eq_true rfl) (fun Γ C E => ?_)
  have E' := (⟨_, _, _, E⟩ : ∃ Qc mc ms, mz_E Γ Qc mc ms (mz_A ρ mz_lay1))
  refine mz_go FLX2 KLX2 C [(0, .aload_n 0), (1, .getfield 54), (4, .getfield 234), (7, .iload_n 1)] (by decide +kernel) (pc' := 8) (L' := [(0, .ref 30), (1, .int r)]) (st' := [.int r, .ref 76]) rfl ?_
  refine mz_callV (As := [.int r]) (rest := []) C E' (f_Row_get l D cA ρ hI (r := 76) (a := 77) (n := 8) rfl rfl (by decide) M r) hy_X6_get wl_X2_121 rfl rfl rfl ⟨Nat.le_of_ble_eq_true rfl, Nat.le_of_ble_eq_true rfl⟩ ⟨Nat.le_refl _, Nat.le_refl _⟩ (Nat.le_of_ble_eq_true rfl) (by decide +kernel) ?_ rfl
  refine mz_go FLX2 KLX2 C [(11, .aload_n 0), (12, .getfield 20), (15, .getfield 237), (18, .iload_n 1)] (by decide +kernel) (pc' := 19) (L' := [(0, .ref 30), (1, .int r)]) (st' := [.int r, .ref 2, .int (mz_rg 8 (M 77) r)]) rfl ?_
  refine mz_callV (As := [.int r]) (rest := [.int (mz_rg 8 (M 77) r)]) C E' (f_Row_get l D cA ρ hI (r := 2) (a := 3) (n := 8) rfl rfl (by decide) M r) hy_X6_get wl_X2_121 rfl rfl rfl ⟨Nat.le_of_ble_eq_true rfl, Nat.le_of_ble_eq_true rfl⟩ ⟨Nat.le_refl _, Nat.le_refl _⟩ (Nat.le_of_ble_eq_true rfl) (by decide +kernel) ?_ rfl
  refine mz_ilt (off := 7) (tgt := 29) C (by decide +kernel) (by decide) (fun h1 => ?_) (fun h1 => ?_)
  · refine mz_go FLX2 KLX2 C [(29, .iconst 0)] (by decide +kernel) (pc' := 30) (L' := [(0, .ref 30), (1, .int r)]) (st' := [.int 0]) rfl ?_
    exact mz_zret C E (by decide +kernel) (Or.inl rfl) (by unfold g_X2_isFull; rw [if_pos h1]; try rfl) (rfl)
  · refine mz_go FLX2 KLX2 C [(25, .iconst 1), (26, .goto 4)] (by decide +kernel) (pc' := 30) (L' := [(0, .ref 30), (1, .int r)]) (st' := [.int 1]) rfl ?_
    exact mz_zret C E (by decide +kernel) (Or.inr rfl) (by unfold g_X2_isFull; rw [if_neg h1]; try rfl) (rfl)
def g_X2_emptierRoom_1 (M : mz_Mem) (f : Int32) (i3 : Int32) (a4 : Int32) : Int32 := if (mz_gg 64 (M 6 0) (M 8) f i3) = (-1) then a4 else if (mz_rg 8 (M 77) a4) ≤ (mz_rg 8 (M 77) i3) then a4 else i3
def g_X2_emptierRoom (M : mz_Mem) (f : Int32) : Int32 := if (g_X8_runningIn M f) = 0 then (mz_fr (M 1 0) (g_X2_emptierRoom_1 M f) f) else f
set_option maxHeartbeats 4000000 in
theorem f_X2_emptierRoom (l : Launch) (D : va_G) (cA : ClassId) (ρ : Nat → Nat) (hI : mz_I ρ mz_lay1) (M : mz_Mem) (f : Int32) : mz_M l D vwCl cA ρ mz_lay1 yX2_emptierRoom cX2_emptierRoom 4 (some .int) 2 44 [.ref 30, .int f] M (some (.int (g_X2_emptierRoom M f))) M := by
  refine mz_in0 (by decide +kernel) (Nat.le_of_ble_eq_true rfl) (fun Γ C E => ?_)
  have E' := (⟨_, _, _, E⟩ : ∃ Qc mc ms, mz_E Γ Qc mc ms (mz_A ρ mz_lay1))
  refine mz_go FLX2 KLX2 C [(0, .aload_n 0), (1, .getfield 40), (4, .iload_n 1)] (by decide +kernel) (pc' := 5) (L' := [(0, .ref 30), (1, .int f)]) (st' := [.int f, .ref 40]) rfl ?_
  refine mz_callV (As := [.int f]) (rest := []) C E' (f_X8_runningIn l D cA ρ hI M f) hy_X8_runningIn wl_X2_252 rfl rfl rfl ⟨Nat.le_of_ble_eq_true rfl, Nat.le_of_ble_eq_true rfl⟩ ⟨Nat.le_refl _, Nat.le_refl _⟩ (Nat.le_of_ble_eq_true rfl) (by decide +kernel) ?_ rfl
  refine mz_zeq (off := 5) (tgt := 13) C (by decide +kernel) (by decide) (fun h1 => ?_) (fun h1 => ?_)
  · refine mz_go FLX2 KLX2 C [(13, .iload_n 1), (14, .istore_n 2), (15, .iconst 0), (16, .istore_n 3)] (by decide +kernel) (pc' := 17) (L' := [(3, .int 0), (2, .int f), (0, .ref 30), (1, .int f)]) (st' := []) rfl ?_
    refine mz_sub (L' := [(0, .ref 30), (1, .int f), (2, .int f), (3, .int 0)]) (by simp) ?_
    refine mz_loop (M 1 0) (g_X2_emptierRoom_1 M f) (fun (i : Int32) (a : Int32) => mz_W Γ ρ 4 0 0 (mz_H D vwCl cA ρ mz_lay1 M) 17 [(0, .ref 30), (1, .int f), (2, .int a), (3, .int i)] []) f (fun i3 a4 hi5 hx6 hb7 => ?_)
    refine mz_go FLX2 KLX2 C [(17, .iload_n 3), (18, .aload_n 0), (19, .getfield 20), (22, .getfield 255)] (by decide +kernel) (pc' := 25) (L' := [(0, .ref 30), (1, .int f), (2, .int a4), (3, .int i3)]) (st' := [.int (M 1 0), .int i3]) rfl ?_
    refine mz_ige (off := 52) (tgt := 77) C (by decide +kernel) (by decide) (fun h2 => ?_) (fun h2 => ?_)
    · have e11 := hx6 h2
      subst e11
      refine mz_sub (L' := [(0, .ref 30), (1, .int f), (2, .int (mz_fr (M 1 0) (g_X2_emptierRoom_1 M f) f))]) (by simp) ?_
      refine mz_go FLX2 KLX2 C [(77, .iload_n 2)] (by decide +kernel) (pc' := 78) (L' := [(0, .ref 30), (1, .int f), (2, .int (mz_fr (M 1 0) (g_X2_emptierRoom_1 M f) f))]) (st' := [.int (mz_fr (M 1 0) (g_X2_emptierRoom_1 M f) f)]) rfl ?_
      exact mz_iret C E (by decide +kernel) (by unfold g_X2_emptierRoom; rw [if_pos h1]; try rfl) (rfl)
    · refine mz_go FLX2 KLX2 C [(28, .aload_n 0), (29, .getfield 20), (32, .getfield 214), (35, .iload_n 1), (36, .iload_n 3)] (by decide +kernel) (pc' := 37) (L' := [(0, .ref 30), (1, .int f), (2, .int a4), (3, .int i3)]) (st' := [.int i3, .int f, .ref 6]) rfl ?_
      refine mz_callV (As := [.int f, .int i3]) (rest := []) C E' (f_Grid_get l D cA ρ hI (g := 6) (r := 7) (a := 8) (n := 64) rfl rfl rfl (by decide) M f i3) hy_X3_get wl_X2_143 rfl rfl rfl ⟨Nat.le_of_ble_eq_true rfl, Nat.le_of_ble_eq_true rfl⟩ ⟨Nat.le_refl _, Nat.le_refl _⟩ (Nat.le_of_ble_eq_true rfl) (by decide +kernel) ?_ rfl
      refine mz_go FLX2 KLX2 C [(40, .iconst (-1))] (by decide +kernel) (pc' := 41) (L' := [(0, .ref 30), (1, .int f), (2, .int a4), (3, .int i3)]) (st' := [.int (-1), .int (mz_gg 64 (M 6 0) (M 8) f i3)]) rfl ?_
      refine mz_ieq (off := 30) (tgt := 71) C (by decide +kernel) (by decide) (fun h12 => ?_) (fun h12 => ?_)
      · refine mz_go FLX2 KLX2 C [(71, .iinc 3 1), (74, .goto (-57))] (by decide +kernel) (pc' := 17) (L' := [(3, .int (i3 + 1)), (0, .ref 30), (1, .int f), (2, .int a4)]) (st' := []) rfl ?_
        have hb13 := hb7 h2
        rw [show g_X2_emptierRoom_1 M f i3 a4 = a4 from by unfold g_X2_emptierRoom_1; rw [if_pos h12]] at hb13
        exact mz_sub (by simp) hb13
      · refine mz_go FLX2 KLX2 C [(44, .aload_n 0), (45, .getfield 54), (48, .getfield 234), (51, .iload_n 3)] (by decide +kernel) (pc' := 52) (L' := [(0, .ref 30), (1, .int f), (2, .int a4), (3, .int i3)]) (st' := [.int i3, .ref 76]) rfl ?_
        refine mz_callV (As := [.int i3]) (rest := []) C E' (f_Row_get l D cA ρ hI (r := 76) (a := 77) (n := 8) rfl rfl (by decide) M i3) hy_X6_get wl_X2_121 rfl rfl rfl ⟨Nat.le_of_ble_eq_true rfl, Nat.le_of_ble_eq_true rfl⟩ ⟨Nat.le_refl _, Nat.le_refl _⟩ (Nat.le_of_ble_eq_true rfl) (by decide +kernel) ?_ rfl
        refine mz_go FLX2 KLX2 C [(55, .aload_n 0), (56, .getfield 54), (59, .getfield 234), (62, .iload_n 2)] (by decide +kernel) (pc' := 63) (L' := [(0, .ref 30), (1, .int f), (2, .int a4), (3, .int i3)]) (st' := [.int a4, .ref 76, .int (mz_rg 8 (M 77) i3)]) rfl ?_
        refine mz_callV (As := [.int a4]) (rest := [.int (mz_rg 8 (M 77) i3)]) C E' (f_Row_get l D cA ρ hI (r := 76) (a := 77) (n := 8) rfl rfl (by decide) M a4) hy_X6_get wl_X2_121 rfl rfl rfl ⟨Nat.le_of_ble_eq_true rfl, Nat.le_of_ble_eq_true rfl⟩ ⟨Nat.le_refl _, Nat.le_refl _⟩ (Nat.le_of_ble_eq_true rfl) (by decide +kernel) ?_ rfl
        refine mz_ige (off := 5) (tgt := 71) C (by decide +kernel) (by decide) (fun h14 => ?_) (fun h14 => ?_)
        · refine mz_go FLX2 KLX2 C [(71, .iinc 3 1), (74, .goto (-57))] (by decide +kernel) (pc' := 17) (L' := [(3, .int (i3 + 1)), (0, .ref 30), (1, .int f), (2, .int a4)]) (st' := []) rfl ?_
          have hb15 := hb7 h2
          rw [show g_X2_emptierRoom_1 M f i3 a4 = a4 from by unfold g_X2_emptierRoom_1; rw [if_neg h12, if_pos h14]] at hb15
          exact mz_sub (by simp) hb15
        · refine mz_go FLX2 KLX2 C [(69, .iload_n 3), (70, .istore_n 2), (71, .iinc 3 1), (74, .goto (-57))] (by decide +kernel) (pc' := 17) (L' := [(3, .int (i3 + 1)), (2, .int i3), (0, .ref 30), (1, .int f)]) (st' := []) rfl ?_
          have hb16 := hb7 h2
          rw [show g_X2_emptierRoom_1 M f i3 a4 = i3 from by unfold g_X2_emptierRoom_1; rw [if_neg h12, if_neg h14]] at hb16
          exact mz_sub (by simp) hb16
  · refine mz_go FLX2 KLX2 C [(11, .iload_n 1)] (by decide +kernel) (pc' := 12) (L' := [(0, .ref 30), (1, .int f)]) (st' := [.int f]) rfl ?_
    exact mz_iret C E (by decide +kernel) (by unfold g_X2_emptierRoom; rw [if_neg h1]; try rfl) (rfl)
def g_X2_nextRoomToScene_1 (M : mz_Mem) (g : Int32) (f : Int32) (i2 : Int32) (a3 : Int32 × Int32) : Int32 × Int32 := if (g_X8_runs M i2) = 0 then (a3.1, a3.2) else if (g_X0_knows M g i2) = 0 then (if (mz_gg 64 (M 9 0) (M 11) f (mz_rg 12 (M 21) i2)) = (-1) then (a3.1, a3.2) else if a3.2 = (-1) then (mz_rg 12 (M 21) i2, mz_gg 64 (M 9 0) (M 11) f (mz_rg 12 (M 21) i2)) else if a3.2 ≤ (mz_gg 64 (M 9 0) (M 11) f (mz_rg 12 (M 21) i2)) then (a3.1, a3.2) else (mz_rg 12 (M 21) i2, mz_gg 64 (M 9 0) (M 11) f (mz_rg 12 (M 21) i2))) else (a3.1, a3.2)
def g_X2_nextRoomToScene (M : mz_Mem) (g : Int32) (f : Int32) : Int32 := (mz_gg 64 (M 12 0) (M 14) f ((mz_fr (M 15 2) (g_X2_nextRoomToScene_1 M g f) (f, -1)).1))
set_option maxHeartbeats 4000000 in
theorem f_X2_nextRoomToScene (l : Launch) (D : va_G) (cA : ClassId) (ρ : Nat → Nat) (hI : mz_I ρ mz_lay1) (M : mz_Mem) (g : Int32) (f : Int32) : mz_M l D vwCl cA ρ mz_lay1 yX2_nextRoomToScene cX2_nextRoomToScene 8 (some .int) 2 43 [.ref 30, .int g, .int f] M (some (.int (g_X2_nextRoomToScene M g f))) M := by
  refine mz_in0 (by decide +kernel) (Nat.le_of_ble_eq_true rfl) (fun Γ C E => ?_)
  have E' := (⟨_, _, _, E⟩ : ∃ Qc mc ms, mz_E Γ Qc mc ms (mz_A ρ mz_lay1))
  refine mz_go FLX2 KLX2 C [(0, .iload_n 2), (1, .istore_n 3), (2, .iconst (-1)), (3, .istore 4), (5, .iconst 0), (6, .istore 5)] (by decide +kernel) (pc' := 8) (L' := [(5, .int 0), (4, .int (-1)), (3, .int f), (0, .ref 30), (1, .int g), (2, .int f)]) (st' := []) rfl ?_
  refine mz_sub (L' := [(0, .ref 30), (1, .int g), (2, .int f), (3, .int f), (4, .int (-1)), (5, .int 0)]) (by simp) ?_
  refine mz_loop (M 15 2) (g_X2_nextRoomToScene_1 M g f) (fun (i : Int32) (a : Int32 × Int32) => mz_W Γ ρ 8 0 0 (mz_H D vwCl cA ρ mz_lay1 M) 8 [(0, .ref 30), (1, .int g), (2, .int f), (3, .int a.1), (4, .int a.2), (5, .int i)] []) (f, -1) (fun i2 a3 hi4 hx5 hb6 => ?_)
  refine mz_go FLX2 KLX2 C [(8, .iload 5), (10, .aload_n 0), (11, .getfield 24), (14, .getfield 149)] (by decide +kernel) (pc' := 17) (L' := [(0, .ref 30), (1, .int g), (2, .int f), (3, .int a3.1), (4, .int a3.2), (5, .int i2)]) (st' := [.int (M 15 2), .int i2]) rfl ?_
  refine mz_ige (off := 89) (tgt := 106) C (by decide +kernel) (by decide) (fun h1 => ?_) (fun h1 => ?_)
  · have e10 := hx5 h1
    subst e10
    refine mz_sub (L' := [(0, .ref 30), (1, .int g), (2, .int f), (3, .int ((mz_fr (M 15 2) (g_X2_nextRoomToScene_1 M g f) (f, -1)).1)), (4, .int ((mz_fr (M 15 2) (g_X2_nextRoomToScene_1 M g f) (f, -1)).2))]) (by simp) ?_
    refine mz_go FLX2 KLX2 C [(106, .aload_n 0), (107, .getfield 20), (110, .getfield 138), (113, .iload_n 2), (114, .iload_n 3)] (by decide +kernel) (pc' := 115) (L' := [(0, .ref 30), (1, .int g), (2, .int f), (3, .int ((mz_fr (M 15 2) (g_X2_nextRoomToScene_1 M g f) (f, -1)).1)), (4, .int ((mz_fr (M 15 2) (g_X2_nextRoomToScene_1 M g f) (f, -1)).2))]) (st' := [.int ((mz_fr (M 15 2) (g_X2_nextRoomToScene_1 M g f) (f, -1)).1), .int f, .ref 12]) rfl ?_
    refine mz_callV (As := [.int f, .int ((mz_fr (M 15 2) (g_X2_nextRoomToScene_1 M g f) (f, -1)).1)]) (rest := []) C E' (f_Grid_get l D cA ρ hI (g := 12) (r := 13) (a := 14) (n := 64) rfl rfl rfl (by decide) M f ((mz_fr (M 15 2) (g_X2_nextRoomToScene_1 M g f) (f, -1)).1)) hy_X3_get wl_X2_143 rfl rfl rfl ⟨Nat.le_of_ble_eq_true rfl, Nat.le_of_ble_eq_true rfl⟩ ⟨Nat.le_refl _, Nat.le_refl _⟩ (Nat.le_of_ble_eq_true rfl) (by decide +kernel) ?_ rfl
    exact mz_iret C E (by decide +kernel) (rfl) (rfl)
  · refine mz_go FLX2 KLX2 C [(20, .aload_n 0), (21, .getfield 24), (24, .getfield 130), (27, .iload 5)] (by decide +kernel) (pc' := 29) (L' := [(0, .ref 30), (1, .int g), (2, .int f), (3, .int a3.1), (4, .int a3.2), (5, .int i2)]) (st' := [.int i2, .ref 20]) rfl ?_
    refine mz_callV (As := [.int i2]) (rest := []) C E' (f_Row_get l D cA ρ hI (r := 20) (a := 21) (n := 12) rfl rfl (by decide) M i2) hy_X6_get wl_X2_121 rfl rfl rfl ⟨Nat.le_of_ble_eq_true rfl, Nat.le_of_ble_eq_true rfl⟩ ⟨Nat.le_refl _, Nat.le_refl _⟩ (Nat.le_of_ble_eq_true rfl) (by decide +kernel) ?_ rfl
    refine mz_go FLX2 KLX2 C [(32, .istore 6), (34, .aload_n 0), (35, .getfield 20), (38, .getfield 258), (41, .iload_n 2), (42, .iload 6)] (by decide +kernel) (pc' := 44) (L' := [(6, .int (mz_rg 12 (M 21) i2)), (0, .ref 30), (1, .int g), (2, .int f), (3, .int a3.1), (4, .int a3.2), (5, .int i2)]) (st' := [.int (mz_rg 12 (M 21) i2), .int f, .ref 9]) rfl ?_
    refine mz_callV (As := [.int f, .int (mz_rg 12 (M 21) i2)]) (rest := []) C E' (f_Grid_get l D cA ρ hI (g := 9) (r := 10) (a := 11) (n := 64) rfl rfl rfl (by decide) M f (mz_rg 12 (M 21) i2)) hy_X3_get wl_X2_143 rfl rfl rfl ⟨Nat.le_of_ble_eq_true rfl, Nat.le_of_ble_eq_true rfl⟩ ⟨Nat.le_refl _, Nat.le_refl _⟩ (Nat.le_of_ble_eq_true rfl) (by decide +kernel) ?_ rfl
    refine mz_go FLX2 KLX2 C [(47, .istore 7), (49, .aload_n 0), (50, .getfield 40), (53, .iload 5)] (by decide +kernel) (pc' := 55) (L' := [(7, .int (mz_gg 64 (M 9 0) (M 11) f (mz_rg 12 (M 21) i2))), (6, .int (mz_rg 12 (M 21) i2)), (0, .ref 30), (1, .int g), (2, .int f), (3, .int a3.1), (4, .int a3.2), (5, .int i2)]) (st' := [.int i2, .ref 40]) rfl ?_
    refine mz_callV (As := [.int i2]) (rest := []) C E' (f_X8_runs l D cA ρ hI M i2) hy_X8_runs wl_X2_152 rfl rfl rfl ⟨Nat.le_of_ble_eq_true rfl, Nat.le_of_ble_eq_true rfl⟩ ⟨Nat.le_refl _, Nat.le_refl _⟩ (Nat.le_of_ble_eq_true rfl) (by decide +kernel) ?_ rfl
    refine mz_zeq (off := 42) (tgt := 100) C (by decide +kernel) (by decide) (fun h11 => ?_) (fun h11 => ?_)
    · refine mz_go FLX2 KLX2 C [(100, .iinc 5 1), (103, .goto (-95))] (by decide +kernel) (pc' := 8) (L' := [(5, .int (i2 + 1)), (7, .int (mz_gg 64 (M 9 0) (M 11) f (mz_rg 12 (M 21) i2))), (6, .int (mz_rg 12 (M 21) i2)), (0, .ref 30), (1, .int g), (2, .int f), (3, .int a3.1), (4, .int a3.2)]) (st' := []) rfl ?_
      have hb12 := hb6 h1
      rw [show g_X2_nextRoomToScene_1 M g f i2 a3 = (a3.1, a3.2) from by unfold g_X2_nextRoomToScene_1; rw [if_pos h11]] at hb12
      exact mz_sub (by simp) hb12
    · refine mz_go FLX2 KLX2 C [(61, .aload_n 0), (62, .getfield 54), (65, .iload_n 1), (66, .iload 5)] (by decide +kernel) (pc' := 68) (L' := [(7, .int (mz_gg 64 (M 9 0) (M 11) f (mz_rg 12 (M 21) i2))), (6, .int (mz_rg 12 (M 21) i2)), (0, .ref 30), (1, .int g), (2, .int f), (3, .int a3.1), (4, .int a3.2), (5, .int i2)]) (st' := [.int i2, .int g, .ref 60]) rfl ?_
      refine mz_callV (As := [.int g, .int i2]) (rest := []) C E' (f_X0_knows l D cA ρ hI M g i2) hy_X0_knows wl_X2_261 rfl rfl rfl ⟨Nat.le_of_ble_eq_true rfl, Nat.le_of_ble_eq_true rfl⟩ ⟨Nat.le_refl _, Nat.le_refl _⟩ (Nat.le_of_ble_eq_true rfl) (by decide +kernel) ?_ rfl
      refine mz_zne (off := 29) (tgt := 100) C (by decide +kernel) (by decide) (fun h13 => ?_) (fun h13 => ?_)
      · refine mz_go FLX2 KLX2 C [(100, .iinc 5 1), (103, .goto (-95))] (by decide +kernel) (pc' := 8) (L' := [(5, .int (i2 + 1)), (7, .int (mz_gg 64 (M 9 0) (M 11) f (mz_rg 12 (M 21) i2))), (6, .int (mz_rg 12 (M 21) i2)), (0, .ref 30), (1, .int g), (2, .int f), (3, .int a3.1), (4, .int a3.2)]) (st' := []) rfl ?_
        have hb14 := hb6 h1
        rw [show g_X2_nextRoomToScene_1 M g f i2 a3 = (a3.1, a3.2) from by unfold g_X2_nextRoomToScene_1; rw [if_neg h11, if_neg h13]] at hb14
        exact mz_sub (by simp) hb14
      · refine mz_go FLX2 KLX2 C [(74, .iload 7), (76, .iconst (-1))] (by decide +kernel) (pc' := 77) (L' := [(7, .int (mz_gg 64 (M 9 0) (M 11) f (mz_rg 12 (M 21) i2))), (6, .int (mz_rg 12 (M 21) i2)), (0, .ref 30), (1, .int g), (2, .int f), (3, .int a3.1), (4, .int a3.2), (5, .int i2)]) (st' := [.int (-1), .int (mz_gg 64 (M 9 0) (M 11) f (mz_rg 12 (M 21) i2))]) rfl ?_
        refine mz_ieq (off := 23) (tgt := 100) C (by decide +kernel) (by decide) (fun h15 => ?_) (fun h15 => ?_)
        · refine mz_go FLX2 KLX2 C [(100, .iinc 5 1), (103, .goto (-95))] (by decide +kernel) (pc' := 8) (L' := [(5, .int (i2 + 1)), (7, .int (mz_gg 64 (M 9 0) (M 11) f (mz_rg 12 (M 21) i2))), (6, .int (mz_rg 12 (M 21) i2)), (0, .ref 30), (1, .int g), (2, .int f), (3, .int a3.1), (4, .int a3.2)]) (st' := []) rfl ?_
          have hb16 := hb6 h1
          rw [show g_X2_nextRoomToScene_1 M g f i2 a3 = (a3.1, a3.2) from by unfold g_X2_nextRoomToScene_1; rw [if_neg h11, if_pos h13, if_pos h15]] at hb16
          exact mz_sub (by simp) hb16
        · refine mz_go FLX2 KLX2 C [(80, .iload 4), (82, .iconst (-1))] (by decide +kernel) (pc' := 83) (L' := [(7, .int (mz_gg 64 (M 9 0) (M 11) f (mz_rg 12 (M 21) i2))), (6, .int (mz_rg 12 (M 21) i2)), (0, .ref 30), (1, .int g), (2, .int f), (3, .int a3.1), (4, .int a3.2), (5, .int i2)]) (st' := [.int (-1), .int a3.2]) rfl ?_
          refine mz_ieq (off := 10) (tgt := 93) C (by decide +kernel) (by decide) (fun h17 => ?_) (fun h17 => ?_)
          · refine mz_go FLX2 KLX2 C [(93, .iload 6), (95, .istore_n 3), (96, .iload 7), (98, .istore 4), (100, .iinc 5 1), (103, .goto (-95))] (by decide +kernel) (pc' := 8) (L' := [(5, .int (i2 + 1)), (4, .int (mz_gg 64 (M 9 0) (M 11) f (mz_rg 12 (M 21) i2))), (3, .int (mz_rg 12 (M 21) i2)), (7, .int (mz_gg 64 (M 9 0) (M 11) f (mz_rg 12 (M 21) i2))), (6, .int (mz_rg 12 (M 21) i2)), (0, .ref 30), (1, .int g), (2, .int f)]) (st' := []) rfl ?_
            have hb18 := hb6 h1
            rw [show g_X2_nextRoomToScene_1 M g f i2 a3 = (mz_rg 12 (M 21) i2, mz_gg 64 (M 9 0) (M 11) f (mz_rg 12 (M 21) i2)) from by unfold g_X2_nextRoomToScene_1; rw [if_neg h11, if_pos h13, if_neg h15, if_pos h17]] at hb18
            exact mz_sub (by simp) hb18
          · refine mz_go FLX2 KLX2 C [(86, .iload 7), (88, .iload 4)] (by decide +kernel) (pc' := 90) (L' := [(7, .int (mz_gg 64 (M 9 0) (M 11) f (mz_rg 12 (M 21) i2))), (6, .int (mz_rg 12 (M 21) i2)), (0, .ref 30), (1, .int g), (2, .int f), (3, .int a3.1), (4, .int a3.2), (5, .int i2)]) (st' := [.int a3.2, .int (mz_gg 64 (M 9 0) (M 11) f (mz_rg 12 (M 21) i2))]) rfl ?_
            refine mz_ige (off := 10) (tgt := 100) C (by decide +kernel) (by decide) (fun h19 => ?_) (fun h19 => ?_)
            · refine mz_go FLX2 KLX2 C [(100, .iinc 5 1), (103, .goto (-95))] (by decide +kernel) (pc' := 8) (L' := [(5, .int (i2 + 1)), (7, .int (mz_gg 64 (M 9 0) (M 11) f (mz_rg 12 (M 21) i2))), (6, .int (mz_rg 12 (M 21) i2)), (0, .ref 30), (1, .int g), (2, .int f), (3, .int a3.1), (4, .int a3.2)]) (st' := []) rfl ?_
              have hb20 := hb6 h1
              rw [show g_X2_nextRoomToScene_1 M g f i2 a3 = (a3.1, a3.2) from by unfold g_X2_nextRoomToScene_1; rw [if_neg h11, if_pos h13, if_neg h15, if_neg h17, if_pos h19]] at hb20
              exact mz_sub (by simp) hb20
            · refine mz_go FLX2 KLX2 C [(93, .iload 6), (95, .istore_n 3), (96, .iload 7), (98, .istore 4), (100, .iinc 5 1), (103, .goto (-95))] (by decide +kernel) (pc' := 8) (L' := [(5, .int (i2 + 1)), (4, .int (mz_gg 64 (M 9 0) (M 11) f (mz_rg 12 (M 21) i2))), (3, .int (mz_rg 12 (M 21) i2)), (7, .int (mz_gg 64 (M 9 0) (M 11) f (mz_rg 12 (M 21) i2))), (6, .int (mz_rg 12 (M 21) i2)), (0, .ref 30), (1, .int g), (2, .int f)]) (st' := []) rfl ?_
              have hb21 := hb6 h1
              rw [show g_X2_nextRoomToScene_1 M g f i2 a3 = (mz_rg 12 (M 21) i2, mz_gg 64 (M 9 0) (M 11) f (mz_rg 12 (M 21) i2)) from by unfold g_X2_nextRoomToScene_1; rw [if_neg h11, if_pos h13, if_neg h15, if_neg h17, if_neg h19]] at hb21
              exact mz_sub (by simp) hb21
def g_X2_nextRoomOf (M : mz_Mem) (g : Int32) (f : Int32) : Int32 := if (mz_rg 12 (M 64) g) = 1 then (mz_gg 64 (M 12 0) (M 14) f (mz_rg 5 (M 35) (mz_rg 12 (M 66) g))) else if (mz_rg 12 (M 64) g) = 2 then (g_X2_emptierRoom M f) else if (mz_rg 12 (M 64) g) = 3 then (g_X2_nextRoomToScene M g f) else f
set_option maxHeartbeats 4000000 in
theorem f_X2_nextRoomOf (l : Launch) (D : va_G) (cA : ClassId) (ρ : Nat → Nat) (hI : mz_I ρ mz_lay1) (M : mz_Mem) (g : Int32) (f : Int32) : mz_M l D vwCl cA ρ mz_lay1 yX2_nextRoomOf cX2_nextRoomOf 3 (some .int) 3 70 [.ref 30, .int g, .int f] M (some (.int (g_X2_nextRoomOf M g f))) M := by
  refine mz_in0 (by decide +kernel) (Nat.le_of_ble_eq_true rfl) (fun Γ C E => ?_)
  have E' := (⟨_, _, _, E⟩ : ∃ Qc mc ms, mz_E Γ Qc mc ms (mz_A ρ mz_lay1))
  refine mz_go FLX2 KLX2 C [(0, .aload_n 0), (1, .getfield 54), (4, .getfield 240), (7, .iload_n 1)] (by decide +kernel) (pc' := 8) (L' := [(0, .ref 30), (1, .int g), (2, .int f)]) (st' := [.int g, .ref 63]) rfl ?_
  refine mz_callV (As := [.int g]) (rest := []) C E' (f_Row_get l D cA ρ hI (r := 63) (a := 64) (n := 12) rfl rfl (by decide) M g) hy_X6_get wl_X2_121 rfl rfl rfl ⟨Nat.le_of_ble_eq_true rfl, Nat.le_of_ble_eq_true rfl⟩ ⟨Nat.le_refl _, Nat.le_refl _⟩ (Nat.le_of_ble_eq_true rfl) (by decide +kernel) ?_ rfl
  by_cases h1 : (mz_rg 12 (M 64) g) = 1
  · refine mz_tin (dflt := 71) (lo := 1) (hi := 3) (offs := #[25, 58, 64]) (len := 25) (q := 1) (v := 1) (off := 25) (tgt := 36) C (by decide +kernel) h1 (by decide) (by decide) rfl (by decide) ?_
    refine mz_go FLX2 KLX2 C [(36, .aload_n 0), (37, .getfield 20), (40, .getfield 138), (43, .iload_n 2), (44, .aload_n 0), (45, .getfield 33), (48, .getfield 137), (51, .aload_n 0), (52, .getfield 54), (55, .getfield 243), (58, .iload_n 1)] (by decide +kernel) (pc' := 59) (L' := [(0, .ref 30), (1, .int g), (2, .int f)]) (st' := [.int g, .ref 65, .ref 34, .int f, .ref 12]) rfl ?_
    refine mz_callV (As := [.int g]) (rest := [.ref 34, .int f, .ref 12]) C E' (f_Row_get l D cA ρ hI (r := 65) (a := 66) (n := 12) rfl rfl (by decide) M g) hy_X6_get wl_X2_121 rfl rfl rfl ⟨Nat.le_of_ble_eq_true rfl, Nat.le_of_ble_eq_true rfl⟩ ⟨Nat.le_refl _, Nat.le_refl _⟩ (Nat.le_of_ble_eq_true rfl) (by decide +kernel) ?_ rfl
    refine mz_callV (As := [.int (mz_rg 12 (M 66) g)]) (rest := [.int f, .ref 12]) C E' (f_Row_get l D cA ρ hI (r := 34) (a := 35) (n := 5) rfl rfl (by decide) M (mz_rg 12 (M 66) g)) hy_X6_get wl_X2_121 rfl rfl rfl ⟨Nat.le_of_ble_eq_true rfl, Nat.le_of_ble_eq_true rfl⟩ ⟨Nat.le_refl _, Nat.le_refl _⟩ (Nat.le_of_ble_eq_true rfl) (by decide +kernel) ?_ rfl
    refine mz_callV (As := [.int f, .int (mz_rg 5 (M 35) (mz_rg 12 (M 66) g))]) (rest := []) C E' (f_Grid_get l D cA ρ hI (g := 12) (r := 13) (a := 14) (n := 64) rfl rfl rfl (by decide) M f (mz_rg 5 (M 35) (mz_rg 12 (M 66) g))) hy_X3_get wl_X2_143 rfl rfl rfl ⟨Nat.le_of_ble_eq_true rfl, Nat.le_of_ble_eq_true rfl⟩ ⟨Nat.le_refl _, Nat.le_refl _⟩ (Nat.le_of_ble_eq_true rfl) (by decide +kernel) ?_ rfl
    exact mz_iret C E (by decide +kernel) (by unfold g_X2_nextRoomOf; rw [if_pos h1]; try rfl) (rfl)
  by_cases h2 : (mz_rg 12 (M 64) g) = 2
  · refine mz_tin (dflt := 71) (lo := 1) (hi := 3) (offs := #[25, 58, 64]) (len := 25) (q := 2) (v := 2) (off := 58) (tgt := 69) C (by decide +kernel) h2 (by decide) (by decide) rfl (by decide) ?_
    refine mz_go FLX2 KLX2 C [(69, .aload_n 0), (70, .iload_n 2)] (by decide +kernel) (pc' := 71) (L' := [(0, .ref 30), (1, .int g), (2, .int f)]) (st' := [.int f, .ref 30]) rfl ?_
    refine mz_callV (As := [.int f]) (rest := []) C E' (f_X2_emptierRoom l D cA ρ hI M f) hy_X2_emptierRoom wl_X2_246 rfl rfl rfl ⟨Nat.le_of_ble_eq_true rfl, Nat.le_of_ble_eq_true rfl⟩ ⟨Nat.le_refl _, Nat.le_refl _⟩ (Nat.le_of_ble_eq_true rfl) (by decide +kernel) ?_ rfl
    exact mz_iret C E (by decide +kernel) (by unfold g_X2_nextRoomOf; rw [if_neg h1, if_pos h2]; try rfl) (rfl)
  by_cases h3 : (mz_rg 12 (M 64) g) = 3
  · refine mz_tin (dflt := 71) (lo := 1) (hi := 3) (offs := #[25, 58, 64]) (len := 25) (q := 3) (v := 3) (off := 64) (tgt := 75) C (by decide +kernel) h3 (by decide) (by decide) rfl (by decide) ?_
    refine mz_go FLX2 KLX2 C [(75, .aload_n 0), (76, .iload_n 1), (77, .iload_n 2)] (by decide +kernel) (pc' := 78) (L' := [(0, .ref 30), (1, .int g), (2, .int f)]) (st' := [.int f, .int g, .ref 30]) rfl ?_
    refine mz_callV (As := [.int g, .int f]) (rest := []) C E' (f_X2_nextRoomToScene l D cA ρ hI M g f) hy_X2_nextRoomToScene wl_X2_249 rfl rfl rfl ⟨Nat.le_of_ble_eq_true rfl, Nat.le_of_ble_eq_true rfl⟩ ⟨Nat.le_refl _, Nat.le_refl _⟩ (Nat.le_of_ble_eq_true rfl) (by decide +kernel) ?_ rfl
    exact mz_iret C E (by decide +kernel) (by unfold g_X2_nextRoomOf; rw [if_neg h1, if_neg h2, if_pos h3]; try rfl) (rfl)
  refine mz_tout (dflt := 71) (lo := 1) (hi := 3) (offs := #[25, 58, 64]) (len := 25) (tgt := 82) C (by decide +kernel) (by have := mz_ne_toInt (v := 1) (by decide) h1; have := mz_ne_toInt (v := 2) (by decide) h2; have := mz_ne_toInt (v := 3) (by decide) h3; omega) (by decide) ?_
  refine mz_go FLX2 KLX2 C [(82, .iload_n 2)] (by decide +kernel) (pc' := 83) (L' := [(0, .ref 30), (1, .int g), (2, .int f)]) (st' := [.int f]) rfl ?_
  exact mz_iret C E (by decide +kernel) (by unfold g_X2_nextRoomOf; rw [if_neg h1, if_neg h2, if_neg h3]; try rfl) (rfl)
def g_X2_moveGuest (M : mz_Mem) (g : Int32) (to_ : Int32) (d : Int32) : mz_Mem := if (mz_rg 14 (M 5) d) ≤ (mz_rg 14 (M 32) d) then (mz_s M 72 (mz_ra 12 (M 72) g 1)) else if (g_X2_isFull M to_) = 0 then (g_X0_walk (mz_s M 32 (mz_ra 14 (M 32) d 1)) g to_) else (mz_s M 72 (mz_ra 12 (M 72) g 1))
theorem g_X2_moveGuest_hs (M : mz_Mem) (g : Int32) (to_ : Int32) (d : Int32) : mz_hs M (g_X2_moveGuest M g to_ d) := by
  unfold g_X2_moveGuest
  by_cases h1 : (mz_rg 14 (M 5) d) ≤ (mz_rg 14 (M 32) d)
  · rw [if_pos h1]
    exact mz_hs_s (by decide)
  · rw [if_neg h1]
    by_cases h2 : (g_X2_isFull M to_) = 0
    · rw [if_pos h2]
      exact (mz_hs_s (by decide)).trans (g_X0_walk_hs (mz_s M 32 (mz_ra 14 (M 32) d 1)) g to_)
    · rw [if_neg h2]
      exact mz_hs_s (by decide)

set_option maxHeartbeats 4000000 in
theorem f_X2_moveGuest (l : Launch) (D : va_G) (cA : ClassId) (ρ : Nat → Nat) (hI : mz_I ρ mz_lay1) (M : mz_Mem) (g : Int32) (to_ : Int32) (d : Int32) : mz_M l D vwCl cA ρ mz_lay1 yX2_moveGuest cX2_moveGuest 4 none 2 44 [.ref 30, .int g, .int to_, .int d] M none (g_X2_moveGuest M g to_ d) := by
  refine mz_in0 (by decide +kernel) (Nat.le_of_ble_eq_true rfl) (fun Γ C E => ?_)
  have E' := (⟨_, _, _, E⟩ : ∃ Qc mc ms, mz_E Γ Qc mc ms (mz_A ρ mz_lay1))
  refine mz_go FLX2 KLX2 C [(0, .aload_n 0), (1, .getfield 14), (4, .iload_n 3)] (by decide +kernel) (pc' := 5) (L' := [(0, .ref 30), (1, .int g), (2, .int to_), (3, .int d)]) (st' := [.int d, .ref 31]) rfl ?_
  refine mz_callV (As := [.int d]) (rest := []) C E' (f_Row_get l D cA ρ hI (r := 31) (a := 32) (n := 14) rfl rfl (by decide) M d) hy_X6_get wl_X2_121 rfl rfl rfl ⟨Nat.le_of_ble_eq_true rfl, Nat.le_of_ble_eq_true rfl⟩ ⟨Nat.le_refl _, Nat.le_refl _⟩ (Nat.le_of_ble_eq_true rfl) (by decide +kernel) ?_ rfl
  refine mz_go FLX2 KLX2 C [(8, .aload_n 0), (9, .getfield 20), (12, .getfield 221), (15, .iload_n 3)] (by decide +kernel) (pc' := 16) (L' := [(0, .ref 30), (1, .int g), (2, .int to_), (3, .int d)]) (st' := [.int d, .ref 4, .int (mz_rg 14 (M 32) d)]) rfl ?_
  refine mz_callV (As := [.int d]) (rest := [.int (mz_rg 14 (M 32) d)]) C E' (f_Row_get l D cA ρ hI (r := 4) (a := 5) (n := 14) rfl rfl (by decide) M d) hy_X6_get wl_X2_121 rfl rfl rfl ⟨Nat.le_of_ble_eq_true rfl, Nat.le_of_ble_eq_true rfl⟩ ⟨Nat.le_refl _, Nat.le_refl _⟩ (Nat.le_of_ble_eq_true rfl) (by decide +kernel) ?_ rfl
  refine mz_ige (off := 32) (tgt := 51) C (by decide +kernel) (by decide) (fun h1 => ?_) (fun h1 => ?_)
  · refine mz_go FLX2 KLX2 C [(51, .aload_n 0), (52, .getfield 54), (55, .getfield 231), (58, .iload_n 1), (59, .iconst 1)] (by decide +kernel) (pc' := 60) (L' := [(0, .ref 30), (1, .int g), (2, .int to_), (3, .int d)]) (st' := [.int 1, .int g, .ref 71]) rfl ?_
    refine mz_callV (As := [.int g, .int 1]) (rest := []) C E' (f_Row_add l D cA ρ hI (r := 71) (a := 72) (n := 12) rfl rfl (by decide) M g 1) hy_X6_add wl_X2_227 rfl rfl rfl ⟨Nat.le_of_ble_eq_true rfl, Nat.le_of_ble_eq_true rfl⟩ ⟨Nat.le_refl _, Nat.le_refl _⟩ (Nat.le_of_ble_eq_true rfl) (by decide +kernel) ?_ rfl
    exact mz_vret C E (by decide +kernel) (by unfold g_X2_moveGuest; rw [if_pos h1]; try rfl)
  · refine mz_go FLX2 KLX2 C [(22, .aload_n 0), (23, .iload_n 2)] (by decide +kernel) (pc' := 24) (L' := [(0, .ref 30), (1, .int g), (2, .int to_), (3, .int d)]) (st' := [.int to_, .ref 30]) rfl ?_
    refine mz_callV (As := [.int to_]) (rest := []) C E' (f_X2_isFull l D cA ρ hI M to_) hy_X2_isFull wl_X2_224 rfl rfl rfl ⟨Nat.le_of_ble_eq_true rfl, Nat.le_of_ble_eq_true rfl⟩ ⟨Nat.le_refl _, Nat.le_refl _⟩ (Nat.le_of_ble_eq_true rfl) (by decide +kernel) ?_ rfl
    refine mz_zne (off := 24) (tgt := 51) C (by decide +kernel) (by decide) (fun h2 => ?_) (fun h2 => ?_)
    · refine mz_go FLX2 KLX2 C [(51, .aload_n 0), (52, .getfield 54), (55, .getfield 231), (58, .iload_n 1), (59, .iconst 1)] (by decide +kernel) (pc' := 60) (L' := [(0, .ref 30), (1, .int g), (2, .int to_), (3, .int d)]) (st' := [.int 1, .int g, .ref 71]) rfl ?_
      refine mz_callV (As := [.int g, .int 1]) (rest := []) C E' (f_Row_add l D cA ρ hI (r := 71) (a := 72) (n := 12) rfl rfl (by decide) M g 1) hy_X6_add wl_X2_227 rfl rfl rfl ⟨Nat.le_of_ble_eq_true rfl, Nat.le_of_ble_eq_true rfl⟩ ⟨Nat.le_refl _, Nat.le_refl _⟩ (Nat.le_of_ble_eq_true rfl) (by decide +kernel) ?_ rfl
      exact mz_vret C E (by decide +kernel) (by unfold g_X2_moveGuest; rw [if_neg h1, if_neg h2]; try rfl)
    · refine mz_go FLX2 KLX2 C [(30, .aload_n 0), (31, .getfield 14), (34, .iload_n 3), (35, .iconst 1)] (by decide +kernel) (pc' := 36) (L' := [(0, .ref 30), (1, .int g), (2, .int to_), (3, .int d)]) (st' := [.int 1, .int d, .ref 31]) rfl ?_
      refine mz_callV (As := [.int d, .int 1]) (rest := []) C E' (f_Row_add l D cA ρ hI (r := 31) (a := 32) (n := 14) rfl rfl (by decide) M d 1) hy_X6_add wl_X2_227 rfl rfl rfl ⟨Nat.le_of_ble_eq_true rfl, Nat.le_of_ble_eq_true rfl⟩ ⟨Nat.le_refl _, Nat.le_refl _⟩ (Nat.le_of_ble_eq_true rfl) (by decide +kernel) ?_ rfl
      refine mz_go FLX2 KLX2 C [(39, .aload_n 0), (40, .getfield 54), (43, .iload_n 1), (44, .iload_n 2)] (by decide +kernel) (pc' := 45) (L' := [(0, .ref 30), (1, .int g), (2, .int to_), (3, .int d)]) (st' := [.int to_, .int g, .ref 60]) rfl ?_
      refine mz_callV (As := [.int g, .int to_]) (rest := []) C E' (f_X0_walk l D cA ρ hI (mz_s M 32 (mz_ra 14 (M 32) d 1)) g to_) hy_X0_walk wl_X2_230 rfl rfl rfl ⟨Nat.le_of_ble_eq_true rfl, Nat.le_of_ble_eq_true rfl⟩ ⟨Nat.le_refl _, Nat.le_refl _⟩ (Nat.le_of_ble_eq_true rfl) (by decide +kernel) ?_ rfl
      refine mz_go FLX2 KLX2 C [(48, .goto 15)] (by decide +kernel) (pc' := 63) (L' := [(0, .ref 30), (1, .int g), (2, .int to_), (3, .int d)]) (st' := []) rfl ?_
      exact mz_vret C E (by decide +kernel) (by unfold g_X2_moveGuest; rw [if_neg h1, if_pos h2]; try rfl)
def g_X2_moveGuests_1 (M : mz_Mem) (i2 : Int32) (a3 : mz_Mem) : mz_Mem := if (g_X2_nextRoomOf a3 i2 (mz_rg 12 (a3 62) i2)) = (-1) then a3 else if (g_X2_nextRoomOf a3 i2 (mz_rg 12 (a3 62) i2)) = (mz_rg 12 (a3 62) i2) then a3 else (g_X2_moveGuest a3 i2 (g_X2_nextRoomOf a3 i2 (mz_rg 12 (a3 62) i2)) (mz_gg 64 (a3 6 0) (a3 8) (mz_rg 12 (a3 62) i2) (g_X2_nextRoomOf a3 i2 (mz_rg 12 (a3 62) i2))))
theorem g_X2_moveGuests_1_hs (M : mz_Mem) (i2 : Int32) (a3 : mz_Mem) : mz_hs a3 (g_X2_moveGuests_1 M i2 a3) := by
  unfold g_X2_moveGuests_1
  by_cases h1 : (g_X2_nextRoomOf a3 i2 (mz_rg 12 (a3 62) i2)) = (-1)
  · rw [if_pos h1]
    exact mz_hs_rf
  · rw [if_neg h1]
    by_cases h2 : (g_X2_nextRoomOf a3 i2 (mz_rg 12 (a3 62) i2)) = (mz_rg 12 (a3 62) i2)
    · rw [if_pos h2]
      exact mz_hs_rf
    · rw [if_neg h2]
      exact g_X2_moveGuest_hs a3 i2 (g_X2_nextRoomOf a3 i2 (mz_rg 12 (a3 62) i2)) (mz_gg 64 (a3 6 0) (a3 8) (mz_rg 12 (a3 62) i2) (g_X2_nextRoomOf a3 i2 (mz_rg 12 (a3 62) i2)))

def g_X2_moveGuests (M : mz_Mem) : mz_Mem := (mz_fr ((mz_s M 32 (fun _ => 0)) 60 0) (g_X2_moveGuests_1 M) (mz_s M 32 (fun _ => 0)))
theorem g_X2_moveGuests_hs (M : mz_Mem) : mz_hs M (g_X2_moveGuests M) := by
  unfold g_X2_moveGuests
  exact (mz_hs_s (by decide)).trans (mz_hs_frp (fun (a : mz_Mem) => a) (fun i a => g_X2_moveGuests_1_hs M i a))

set_option maxHeartbeats 4000000 in
theorem f_X2_moveGuests (l : Launch) (D : va_G) (cA : ClassId) (ρ : Nat → Nat) (hI : mz_I ρ mz_lay1) (M : mz_Mem) : mz_M l D vwCl cA ρ mz_lay1 yX2_moveGuests cX2_moveGuests 4 none 4 92 [.ref 30] M none (g_X2_moveGuests M) := by
  refine mz_in0 (by decide +kernel) (Nat.le_of_ble_eq_true rfl) (fun Γ C E => ?_)
  have E' := (⟨_, _, _, E⟩ : ∃ Qc mc ms, mz_E Γ Qc mc ms (mz_A ρ mz_lay1))
  refine mz_go FLX2 KLX2 C [(0, .aload_n 0), (1, .getfield 14), (4, .iconst 0)] (by decide +kernel) (pc' := 5) (L' := [(0, .ref 30)]) (st' := [.int 0, .ref 31]) rfl ?_
  refine mz_callV (As := [.int 0]) (rest := []) C E' (f_Row_fill l D cA ρ hI (r := 31) (a := 32) (n := 14) rfl rfl (by decide) M 0) hy_X6_fill wl_X2_206 rfl rfl rfl ⟨Nat.le_of_ble_eq_true rfl, Nat.le_of_ble_eq_true rfl⟩ ⟨Nat.le_refl _, Nat.le_refl _⟩ (Nat.le_of_ble_eq_true rfl) (by decide +kernel) ?_ rfl
  refine mz_go FLX2 KLX2 C [(8, .iconst 0), (9, .istore_n 1)] (by decide +kernel) (pc' := 10) (L' := [(1, .int 0), (0, .ref 30)]) (st' := []) rfl ?_
  refine mz_sub (L' := [(0, .ref 30), (1, .int 0)]) (by simp) ?_
  refine mz_loopI ((mz_s M 32 (fun _ => 0)) 60 0) (g_X2_moveGuests_1 M) (fun (i : Int32) (a : mz_Mem) => mz_W Γ ρ 4 0 0 (mz_H D vwCl cA ρ mz_lay1 a) 10 [(0, .ref 30), (1, .int i)] []) (fun (a : mz_Mem) => a 60 0 = (mz_s M 32 (fun _ => 0)) 60 0) (mz_s M 32 (fun _ => 0)) rfl (fun i a h => ?_) (fun i2 a3 hi4 hv7 hx5 hb6 => ?_)
  · exact (congrFun (g_X2_moveGuests_1_hs M i a _ (by decide)) _).trans h
  have hv7 : a3 60 0 = (mz_s M 32 (fun _ => 0)) 60 0 := hv7
  refine mz_go FLX2 KLX2 C [(10, .iload_n 1), (11, .aload_n 0), (12, .getfield 54), (15, .getfield 207)] (by decide +kernel) (pc' := 18) (L' := [(0, .ref 30), (1, .int i2)]) (st' := [.int (a3 60 0), .int i2]) rfl ?_
  refine mz_ige (off := 56) (tgt := 74) C (by decide +kernel) (by decide) (fun h1 => ?_) (fun h1 => ?_)
  · have e10 := hx5 (by rw [hv7] at h1; exact h1)
    subst e10
    refine mz_sub (L' := [(0, .ref 30)]) (by simp) ?_
    exact mz_vret C E (by decide +kernel) (rfl)
  · refine mz_go FLX2 KLX2 C [(21, .aload_n 0), (22, .getfield 54), (25, .getfield 210), (28, .iload_n 1)] (by decide +kernel) (pc' := 29) (L' := [(0, .ref 30), (1, .int i2)]) (st' := [.int i2, .ref 61]) rfl ?_
    refine mz_callV (As := [.int i2]) (rest := []) C E' (f_Row_get l D cA ρ hI (r := 61) (a := 62) (n := 12) rfl rfl (by decide) a3 i2) hy_X6_get wl_X2_121 rfl rfl rfl ⟨Nat.le_of_ble_eq_true rfl, Nat.le_of_ble_eq_true rfl⟩ ⟨Nat.le_refl _, Nat.le_refl _⟩ (Nat.le_of_ble_eq_true rfl) (by decide +kernel) ?_ rfl
    refine mz_go FLX2 KLX2 C [(32, .istore_n 2), (33, .aload_n 0), (34, .iload_n 1), (35, .iload_n 2)] (by decide +kernel) (pc' := 36) (L' := [(2, .int (mz_rg 12 (a3 62) i2)), (0, .ref 30), (1, .int i2)]) (st' := [.int (mz_rg 12 (a3 62) i2), .int i2, .ref 30]) rfl ?_
    refine mz_callV (As := [.int i2, .int (mz_rg 12 (a3 62) i2)]) (rest := []) C E' (f_X2_nextRoomOf l D cA ρ hI a3 i2 (mz_rg 12 (a3 62) i2)) hy_X2_nextRoomOf wl_X2_211 rfl rfl rfl ⟨Nat.le_of_ble_eq_true rfl, Nat.le_of_ble_eq_true rfl⟩ ⟨Nat.le_refl _, Nat.le_refl _⟩ (Nat.le_of_ble_eq_true rfl) (by decide +kernel) ?_ rfl
    refine mz_go FLX2 KLX2 C [(39, .istore_n 3), (40, .iload_n 3), (41, .iconst (-1))] (by decide +kernel) (pc' := 42) (L' := [(3, .int (g_X2_nextRoomOf a3 i2 (mz_rg 12 (a3 62) i2))), (2, .int (mz_rg 12 (a3 62) i2)), (0, .ref 30), (1, .int i2)]) (st' := [.int (-1), .int (g_X2_nextRoomOf a3 i2 (mz_rg 12 (a3 62) i2))]) rfl ?_
    refine mz_ieq (off := 26) (tgt := 68) C (by decide +kernel) (by decide) (fun h11 => ?_) (fun h11 => ?_)
    · refine mz_go FLX2 KLX2 C [(68, .iinc 1 1), (71, .goto (-61))] (by decide +kernel) (pc' := 10) (L' := [(1, .int (i2 + 1)), (3, .int (g_X2_nextRoomOf a3 i2 (mz_rg 12 (a3 62) i2))), (2, .int (mz_rg 12 (a3 62) i2)), (0, .ref 30)]) (st' := []) rfl ?_
      have hb12 := hb6 (by rw [hv7] at h1; exact h1)
      rw [show g_X2_moveGuests_1 M i2 a3 = a3 from by unfold g_X2_moveGuests_1; rw [if_pos h11]] at hb12
      exact mz_sub (by simp) hb12
    · refine mz_go FLX2 KLX2 C [(45, .iload_n 3), (46, .iload_n 2)] (by decide +kernel) (pc' := 47) (L' := [(3, .int (g_X2_nextRoomOf a3 i2 (mz_rg 12 (a3 62) i2))), (2, .int (mz_rg 12 (a3 62) i2)), (0, .ref 30), (1, .int i2)]) (st' := [.int (mz_rg 12 (a3 62) i2), .int (g_X2_nextRoomOf a3 i2 (mz_rg 12 (a3 62) i2))]) rfl ?_
      refine mz_ieq (off := 21) (tgt := 68) C (by decide +kernel) (by decide) (fun h13 => ?_) (fun h13 => ?_)
      · refine mz_go FLX2 KLX2 C [(68, .iinc 1 1), (71, .goto (-61))] (by decide +kernel) (pc' := 10) (L' := [(1, .int (i2 + 1)), (3, .int (g_X2_nextRoomOf a3 i2 (mz_rg 12 (a3 62) i2))), (2, .int (mz_rg 12 (a3 62) i2)), (0, .ref 30)]) (st' := []) rfl ?_
        have hb14 := hb6 (by rw [hv7] at h1; exact h1)
        rw [show g_X2_moveGuests_1 M i2 a3 = a3 from by unfold g_X2_moveGuests_1; rw [if_neg h11, if_pos h13]] at hb14
        exact mz_sub (by simp) hb14
      · refine mz_go FLX2 KLX2 C [(50, .aload_n 0), (51, .iload_n 1), (52, .iload_n 3), (53, .aload_n 0), (54, .getfield 20), (57, .getfield 214), (60, .iload_n 2), (61, .iload_n 3)] (by decide +kernel) (pc' := 62) (L' := [(3, .int (g_X2_nextRoomOf a3 i2 (mz_rg 12 (a3 62) i2))), (2, .int (mz_rg 12 (a3 62) i2)), (0, .ref 30), (1, .int i2)]) (st' := [.int (g_X2_nextRoomOf a3 i2 (mz_rg 12 (a3 62) i2)), .int (mz_rg 12 (a3 62) i2), .ref 6, .int (g_X2_nextRoomOf a3 i2 (mz_rg 12 (a3 62) i2)), .int i2, .ref 30]) rfl ?_
        refine mz_callV (As := [.int (mz_rg 12 (a3 62) i2), .int (g_X2_nextRoomOf a3 i2 (mz_rg 12 (a3 62) i2))]) (rest := [.int (g_X2_nextRoomOf a3 i2 (mz_rg 12 (a3 62) i2)), .int i2, .ref 30]) C E' (f_Grid_get l D cA ρ hI (g := 6) (r := 7) (a := 8) (n := 64) rfl rfl rfl (by decide) a3 (mz_rg 12 (a3 62) i2) (g_X2_nextRoomOf a3 i2 (mz_rg 12 (a3 62) i2))) hy_X3_get wl_X2_143 rfl rfl rfl ⟨Nat.le_of_ble_eq_true rfl, Nat.le_of_ble_eq_true rfl⟩ ⟨Nat.le_refl _, Nat.le_refl _⟩ (Nat.le_of_ble_eq_true rfl) (by decide +kernel) ?_ rfl
        refine mz_callV (As := [.int i2, .int (g_X2_nextRoomOf a3 i2 (mz_rg 12 (a3 62) i2)), .int (mz_gg 64 (a3 6 0) (a3 8) (mz_rg 12 (a3 62) i2) (g_X2_nextRoomOf a3 i2 (mz_rg 12 (a3 62) i2)))]) (rest := []) C E' (f_X2_moveGuest l D cA ρ hI a3 i2 (g_X2_nextRoomOf a3 i2 (mz_rg 12 (a3 62) i2)) (mz_gg 64 (a3 6 0) (a3 8) (mz_rg 12 (a3 62) i2) (g_X2_nextRoomOf a3 i2 (mz_rg 12 (a3 62) i2)))) hy_X2_moveGuest wl_X2_217 rfl rfl rfl ⟨Nat.le_of_ble_eq_true rfl, Nat.le_of_ble_eq_true rfl⟩ ⟨Nat.le_refl _, Nat.le_refl _⟩ (Nat.le_of_ble_eq_true rfl) (by decide +kernel) ?_ rfl
        refine mz_go FLX2 KLX2 C [(68, .iinc 1 1), (71, .goto (-61))] (by decide +kernel) (pc' := 10) (L' := [(1, .int (i2 + 1)), (3, .int (g_X2_nextRoomOf a3 i2 (mz_rg 12 (a3 62) i2))), (2, .int (mz_rg 12 (a3 62) i2)), (0, .ref 30)]) (st' := []) rfl ?_
        have hb15 := hb6 (by rw [hv7] at h1; exact h1)
        rw [show g_X2_moveGuests_1 M i2 a3 = (g_X2_moveGuest a3 i2 (g_X2_nextRoomOf a3 i2 (mz_rg 12 (a3 62) i2)) (mz_gg 64 (a3 6 0) (a3 8) (mz_rg 12 (a3 62) i2) (g_X2_nextRoomOf a3 i2 (mz_rg 12 (a3 62) i2)))) from by unfold g_X2_moveGuests_1; rw [if_neg h11, if_neg h13]] at hb15
        exact mz_sub (by simp) hb15
def g_X2_showScene_1 (M : mz_Mem) (k : Int32) (i2 : Int32) (a3 : Int32 × mz_Mem) : Int32 × mz_Mem := if a3.1 ≤ 0 then a3 else if (mz_rg 12 (a3.2 62) i2) = (mz_rg 12 (M 21) k) then (a3.1 + (-1), (g_X0_see a3.2 i2 k (((mz_rg 12 (M 25) k) + 1) / 2))) else (a3.1, a3.2)
theorem g_X2_showScene_1_hs (M : mz_Mem) (k : Int32) (i2 : Int32) (a3 : Int32 × mz_Mem) : mz_hs a3.2 (g_X2_showScene_1 M k i2 a3).2 := by
  unfold g_X2_showScene_1
  by_cases h1 : a3.1 ≤ 0
  · rw [if_pos h1]
    exact mz_hs_rf
  · rw [if_neg h1]
    by_cases h2 : (mz_rg 12 (a3.2 62) i2) = (mz_rg 12 (M 21) k)
    · rw [if_pos h2]
      exact g_X0_see_hs a3.2 i2 k (((mz_rg 12 (M 25) k) + 1) / 2)
    · rw [if_neg h2]
      exact mz_hs_rf

def g_X2_showScene (M : mz_Mem) (k : Int32) : mz_Mem := (mz_fr (M 60 0) (g_X2_showScene_1 M k) (((mz_rg 8 (M 3) (mz_rg 12 (M 21) k)) + 1) / 2, M)).2
theorem g_X2_showScene_hs (M : mz_Mem) (k : Int32) : mz_hs M (g_X2_showScene M k) := by
  unfold g_X2_showScene
  exact mz_hs_frp (fun (a : Int32 × mz_Mem) => a.2) (fun i a => g_X2_showScene_1_hs M k i a)

set_option maxHeartbeats 4000000 in
theorem f_X2_showScene (l : Launch) (D : va_G) (cA : ClassId) (ρ : Nat → Nat) (hI : mz_I ρ mz_lay1) (M : mz_Mem) (k : Int32) : mz_M l D vwCl cA ρ mz_lay1 yX2_showScene cX2_showScene 6 none 3 69 [.ref 30, .int k] M none (g_X2_showScene M k) := by
  refine mz_in0 (by decide +kernel) (Nat.le_of_ble_eq_true rfl) (fun Γ C E => ?_)
  have E' := (⟨_, _, _, E⟩ : ∃ Qc mc ms, mz_E Γ Qc mc ms (mz_A ρ mz_lay1))
  refine mz_go FLX2 KLX2 C [(0, .aload_n 0), (1, .getfield 24), (4, .getfield 130), (7, .iload_n 1)] (by decide +kernel) (pc' := 8) (L' := [(0, .ref 30), (1, .int k)]) (st' := [.int k, .ref 20]) rfl ?_
  refine mz_callV (As := [.int k]) (rest := []) C E' (f_Row_get l D cA ρ hI (r := 20) (a := 21) (n := 12) rfl rfl (by decide) M k) hy_X6_get wl_X2_121 rfl rfl rfl ⟨Nat.le_of_ble_eq_true rfl, Nat.le_of_ble_eq_true rfl⟩ ⟨Nat.le_refl _, Nat.le_refl _⟩ (Nat.le_of_ble_eq_true rfl) (by decide +kernel) ?_ rfl
  refine mz_go FLX2 KLX2 C [(11, .istore_n 2), (12, .aload_n 0), (13, .getfield 20), (16, .getfield 237), (19, .iload_n 2)] (by decide +kernel) (pc' := 20) (L' := [(2, .int (mz_rg 12 (M 21) k)), (0, .ref 30), (1, .int k)]) (st' := [.int (mz_rg 12 (M 21) k), .ref 2]) rfl ?_
  refine mz_callV (As := [.int (mz_rg 12 (M 21) k)]) (rest := []) C E' (f_Row_get l D cA ρ hI (r := 2) (a := 3) (n := 8) rfl rfl (by decide) M (mz_rg 12 (M 21) k)) hy_X6_get wl_X2_121 rfl rfl rfl ⟨Nat.le_of_ble_eq_true rfl, Nat.le_of_ble_eq_true rfl⟩ ⟨Nat.le_refl _, Nat.le_refl _⟩ (Nat.le_of_ble_eq_true rfl) (by decide +kernel) ?_ rfl
  refine mz_go FLX2 KLX2 C [(23, .iconst 1), (24, .iadd), (25, .iconst 2)] (by decide +kernel) (pc' := 26) (L' := [(2, .int (mz_rg 12 (M 21) k)), (0, .ref 30), (1, .int k)]) (st' := [.int 2, .int ((mz_rg 8 (M 3) (mz_rg 12 (M 21) k)) + 1)]) rfl ?_
  refine mz_idiv C (by decide) (by decide +kernel) ?_
  refine mz_go FLX2 KLX2 C [(27, .istore_n 3), (28, .aload_n 0), (29, .getfield 24), (32, .getfield 267), (35, .iload_n 1)] (by decide +kernel) (pc' := 36) (L' := [(3, .int (((mz_rg 8 (M 3) (mz_rg 12 (M 21) k)) + 1) / 2)), (2, .int (mz_rg 12 (M 21) k)), (0, .ref 30), (1, .int k)]) (st' := [.int k, .ref 24]) rfl ?_
  refine mz_callV (As := [.int k]) (rest := []) C E' (f_Row_get l D cA ρ hI (r := 24) (a := 25) (n := 12) rfl rfl (by decide) M k) hy_X6_get wl_X2_121 rfl rfl rfl ⟨Nat.le_of_ble_eq_true rfl, Nat.le_of_ble_eq_true rfl⟩ ⟨Nat.le_refl _, Nat.le_refl _⟩ (Nat.le_of_ble_eq_true rfl) (by decide +kernel) ?_ rfl
  refine mz_go FLX2 KLX2 C [(39, .iconst 1), (40, .iadd), (41, .iconst 2)] (by decide +kernel) (pc' := 42) (L' := [(3, .int (((mz_rg 8 (M 3) (mz_rg 12 (M 21) k)) + 1) / 2)), (2, .int (mz_rg 12 (M 21) k)), (0, .ref 30), (1, .int k)]) (st' := [.int 2, .int ((mz_rg 12 (M 25) k) + 1)]) rfl ?_
  refine mz_idiv C (by decide) (by decide +kernel) ?_
  refine mz_go FLX2 KLX2 C [(43, .istore 4), (45, .iconst 0), (46, .istore 5)] (by decide +kernel) (pc' := 48) (L' := [(5, .int 0), (4, .int (((mz_rg 12 (M 25) k) + 1) / 2)), (3, .int (((mz_rg 8 (M 3) (mz_rg 12 (M 21) k)) + 1) / 2)), (2, .int (mz_rg 12 (M 21) k)), (0, .ref 30), (1, .int k)]) (st' := []) rfl ?_
  refine mz_sub (L' := [(0, .ref 30), (1, .int k), (2, .int (mz_rg 12 (M 21) k)), (3, .int (((mz_rg 8 (M 3) (mz_rg 12 (M 21) k)) + 1) / 2)), (4, .int (((mz_rg 12 (M 25) k) + 1) / 2)), (5, .int 0)]) (by simp) ?_
  refine mz_loopB (M 60 0) (g_X2_showScene_1 M k) (fun (i : Int32) (a : Int32 × mz_Mem) => mz_W Γ ρ 6 0 0 (mz_H D vwCl cA ρ mz_lay1 a.2) 48 [(0, .ref 30), (1, .int k), (2, .int (mz_rg 12 (M 21) k)), (3, .int a.1), (4, .int (((mz_rg 12 (M 25) k) + 1) / 2)), (5, .int i)] []) (fun (a : Int32 × mz_Mem) => a.2 60 0 = M 60 0) (fun (a : Int32 × mz_Mem) => a.1 ≤ 0) (((mz_rg 8 (M 3) (mz_rg 12 (M 21) k)) + 1) / 2, M) rfl (fun i a h => ?_) (fun i a h => ?_) (fun i2 a3 hi4 hv7 hx5 hk9 hb6 => ?_)
  · exact (congrFun (g_X2_showScene_1_hs M k i a _ (by decide)) _).trans h
  · unfold g_X2_showScene_1; rw [if_pos h]
  have hv7 : a3.2 60 0 = M 60 0 := hv7
  refine mz_go FLX2 KLX2 C [(48, .iload 5), (50, .aload_n 0), (51, .getfield 54), (54, .getfield 207)] (by decide +kernel) (pc' := 57) (L' := [(0, .ref 30), (1, .int k), (2, .int (mz_rg 12 (M 21) k)), (3, .int a3.1), (4, .int (((mz_rg 12 (M 25) k) + 1) / 2)), (5, .int i2)]) (st' := [.int (a3.2 60 0), .int i2]) rfl ?_
  refine mz_ige (off := 44) (tgt := 101) C (by decide +kernel) (by decide) (fun h1 => ?_) (fun h1 => ?_)
  · have e10 := hx5 (by rw [hv7] at h1; exact h1)
    subst e10
    refine mz_sub (L' := [(0, .ref 30), (1, .int k), (2, .int (mz_rg 12 (M 21) k)), (3, .int ((mz_fr (M 60 0) (g_X2_showScene_1 M k) (((mz_rg 8 (M 3) (mz_rg 12 (M 21) k)) + 1) / 2, M)).1)), (4, .int (((mz_rg 12 (M 25) k) + 1) / 2))]) (by simp) ?_
    exact mz_vret C E (by decide +kernel) (rfl)
  · refine mz_go FLX2 KLX2 C [(60, .iload_n 3)] (by decide +kernel) (pc' := 61) (L' := [(0, .ref 30), (1, .int k), (2, .int (mz_rg 12 (M 21) k)), (3, .int a3.1), (4, .int (((mz_rg 12 (M 25) k) + 1) / 2)), (5, .int i2)]) (st' := [.int a3.1]) rfl ?_
    refine mz_zle (off := 40) (tgt := 101) C (by decide +kernel) (by decide) (fun h8 => ?_) (fun h8 => ?_)
    · have e11 := hk9 (by rw [hv7] at h1; exact h1) h8
      subst e11
      refine mz_sub (L' := [(0, .ref 30), (1, .int k), (2, .int (mz_rg 12 (M 21) k)), (3, .int ((mz_fr (M 60 0) (g_X2_showScene_1 M k) (((mz_rg 8 (M 3) (mz_rg 12 (M 21) k)) + 1) / 2, M)).1)), (4, .int (((mz_rg 12 (M 25) k) + 1) / 2))]) (by simp) ?_
      exact mz_vret C E (by decide +kernel) (rfl)
    · refine mz_go FLX2 KLX2 C [(64, .aload_n 0), (65, .getfield 54), (68, .getfield 210), (71, .iload 5)] (by decide +kernel) (pc' := 73) (L' := [(0, .ref 30), (1, .int k), (2, .int (mz_rg 12 (M 21) k)), (3, .int a3.1), (4, .int (((mz_rg 12 (M 25) k) + 1) / 2)), (5, .int i2)]) (st' := [.int i2, .ref 61]) rfl ?_
      refine mz_callV (As := [.int i2]) (rest := []) C E' (f_Row_get l D cA ρ hI (r := 61) (a := 62) (n := 12) rfl rfl (by decide) a3.2 i2) hy_X6_get wl_X2_121 rfl rfl rfl ⟨Nat.le_of_ble_eq_true rfl, Nat.le_of_ble_eq_true rfl⟩ ⟨Nat.le_refl _, Nat.le_refl _⟩ (Nat.le_of_ble_eq_true rfl) (by decide +kernel) ?_ rfl
      refine mz_go FLX2 KLX2 C [(76, .iload_n 2)] (by decide +kernel) (pc' := 77) (L' := [(0, .ref 30), (1, .int k), (2, .int (mz_rg 12 (M 21) k)), (3, .int a3.1), (4, .int (((mz_rg 12 (M 25) k) + 1) / 2)), (5, .int i2)]) (st' := [.int (mz_rg 12 (M 21) k), .int (mz_rg 12 (a3.2 62) i2)]) rfl ?_
      refine mz_ine (off := 18) (tgt := 95) C (by decide +kernel) (by decide) (fun h12 => ?_) (fun h12 => ?_)
      · refine mz_go FLX2 KLX2 C [(95, .iinc 5 1), (98, .goto (-50))] (by decide +kernel) (pc' := 48) (L' := [(5, .int (i2 + 1)), (0, .ref 30), (1, .int k), (2, .int (mz_rg 12 (M 21) k)), (3, .int a3.1), (4, .int (((mz_rg 12 (M 25) k) + 1) / 2))]) (st' := []) rfl ?_
        have hb13 := hb6 (by rw [hv7] at h1; exact h1)
        rw [show g_X2_showScene_1 M k i2 a3 = (a3.1, a3.2) from by unfold g_X2_showScene_1; rw [if_neg h8, if_neg h12]] at hb13
        exact mz_sub (by simp) hb13
      · refine mz_go FLX2 KLX2 C [(80, .aload_n 0), (81, .getfield 54), (84, .iload 5), (86, .iload_n 1), (87, .iload 4)] (by decide +kernel) (pc' := 89) (L' := [(0, .ref 30), (1, .int k), (2, .int (mz_rg 12 (M 21) k)), (3, .int a3.1), (4, .int (((mz_rg 12 (M 25) k) + 1) / 2)), (5, .int i2)]) (st' := [.int (((mz_rg 12 (M 25) k) + 1) / 2), .int k, .int i2, .ref 60]) rfl ?_
        refine mz_callV (As := [.int i2, .int k, .int (((mz_rg 12 (M 25) k) + 1) / 2)]) (rest := []) C E' (f_X0_see l D cA ρ hI a3.2 i2 k (((mz_rg 12 (M 25) k) + 1) / 2)) hy_X0_see wl_X2_270 rfl rfl rfl ⟨Nat.le_of_ble_eq_true rfl, Nat.le_of_ble_eq_true rfl⟩ ⟨Nat.le_refl _, Nat.le_refl _⟩ (Nat.le_of_ble_eq_true rfl) (by decide +kernel) ?_ rfl
        refine mz_go FLX2 KLX2 C [(92, .iinc 3 (-1)), (95, .iinc 5 1), (98, .goto (-50))] (by decide +kernel) (pc' := 48) (L' := [(5, .int (i2 + 1)), (3, .int (a3.1 + (-1))), (0, .ref 30), (1, .int k), (2, .int (mz_rg 12 (M 21) k)), (4, .int (((mz_rg 12 (M 25) k) + 1) / 2))]) (st' := []) rfl ?_
        have hb14 := hb6 (by rw [hv7] at h1; exact h1)
        rw [show g_X2_showScene_1 M k i2 a3 = (a3.1 + (-1), (g_X0_see a3.2 i2 k (((mz_rg 12 (M 25) k) + 1) / 2))) from by unfold g_X2_showScene_1; rw [if_neg h8, if_pos h12]] at hb14
        exact mz_sub (by simp) hb14
def g_X2_showScenes_1 (M : mz_Mem) (i2 : Int32) (a3 : mz_Mem) : mz_Mem := if (g_X8_runs a3 i2) = 0 then a3 else (g_X2_showScene a3 i2)
theorem g_X2_showScenes_1_hs (M : mz_Mem) (i2 : Int32) (a3 : mz_Mem) : mz_hs a3 (g_X2_showScenes_1 M i2 a3) := by
  unfold g_X2_showScenes_1
  by_cases h1 : (g_X8_runs a3 i2) = 0
  · rw [if_pos h1]
    exact mz_hs_rf
  · rw [if_neg h1]
    exact g_X2_showScene_hs a3 i2

def g_X2_showScenes (M : mz_Mem) : mz_Mem := (mz_fr (M 15 2) (g_X2_showScenes_1 M) M)
theorem g_X2_showScenes_hs (M : mz_Mem) : mz_hs M (g_X2_showScenes M) := by
  unfold g_X2_showScenes
  exact mz_hs_frp (fun (a : mz_Mem) => a) (fun i a => g_X2_showScenes_1_hs M i a)

set_option maxHeartbeats 4000000 in
theorem f_X2_showScenes (l : Launch) (D : va_G) (cA : ClassId) (ρ : Nat → Nat) (hI : mz_I ρ mz_lay1) (M : mz_Mem) : mz_M l D vwCl cA ρ mz_lay1 yX2_showScenes cX2_showScenes 2 none 4 94 [.ref 30] M none (g_X2_showScenes M) := by
  refine mz_in0 (by decide +kernel) (Nat.le_of_ble_eq_true rfl) (fun Γ C E => ?_)
  have E' := (⟨_, _, _, E⟩ : ∃ Qc mc ms, mz_E Γ Qc mc ms (mz_A ρ mz_lay1))
  refine mz_go FLX2 KLX2 C [(0, .iconst 0), (1, .istore_n 1)] (by decide +kernel) (pc' := 2) (L' := [(1, .int 0), (0, .ref 30)]) (st' := []) rfl ?_
  refine mz_sub (L' := [(0, .ref 30), (1, .int 0)]) (by simp) ?_
  refine mz_loopI (M 15 2) (g_X2_showScenes_1 M) (fun (i : Int32) (a : mz_Mem) => mz_W Γ ρ 2 0 0 (mz_H D vwCl cA ρ mz_lay1 a) 2 [(0, .ref 30), (1, .int i)] []) (fun (a : mz_Mem) => a 15 2 = M 15 2) M rfl (fun i a h => ?_) (fun i2 a3 hi4 hv7 hx5 hb6 => ?_)
  · exact (congrFun (g_X2_showScenes_1_hs M i a _ (by decide)) _).trans h
  have hv7 : a3 15 2 = M 15 2 := hv7
  refine mz_go FLX2 KLX2 C [(2, .iload_n 1), (3, .aload_n 0), (4, .getfield 24), (7, .getfield 149)] (by decide +kernel) (pc' := 10) (L' := [(0, .ref 30), (1, .int i2)]) (st' := [.int (a3 15 2), .int i2]) rfl ?_
  refine mz_ige (off := 25) (tgt := 35) C (by decide +kernel) (by decide) (fun h1 => ?_) (fun h1 => ?_)
  · have e10 := hx5 (by rw [hv7] at h1; exact h1)
    subst e10
    refine mz_sub (L' := [(0, .ref 30)]) (by simp) ?_
    exact mz_vret C E (by decide +kernel) (rfl)
  · refine mz_go FLX2 KLX2 C [(13, .aload_n 0), (14, .getfield 40), (17, .iload_n 1)] (by decide +kernel) (pc' := 18) (L' := [(0, .ref 30), (1, .int i2)]) (st' := [.int i2, .ref 40]) rfl ?_
    refine mz_callV (As := [.int i2]) (rest := []) C E' (f_X8_runs l D cA ρ hI a3 i2) hy_X8_runs wl_X2_152 rfl rfl rfl ⟨Nat.le_of_ble_eq_true rfl, Nat.le_of_ble_eq_true rfl⟩ ⟨Nat.le_refl _, Nat.le_refl _⟩ (Nat.le_of_ble_eq_true rfl) (by decide +kernel) ?_ rfl
    refine mz_zeq (off := 8) (tgt := 29) C (by decide +kernel) (by decide) (fun h11 => ?_) (fun h11 => ?_)
    · refine mz_go FLX2 KLX2 C [(29, .iinc 1 1), (32, .goto (-30))] (by decide +kernel) (pc' := 2) (L' := [(1, .int (i2 + 1)), (0, .ref 30)]) (st' := []) rfl ?_
      have hb12 := hb6 (by rw [hv7] at h1; exact h1)
      rw [show g_X2_showScenes_1 M i2 a3 = a3 from by unfold g_X2_showScenes_1; rw [if_pos h11]] at hb12
      exact mz_sub (by simp) hb12
    · refine mz_go FLX2 KLX2 C [(24, .aload_n 0), (25, .iload_n 1)] (by decide +kernel) (pc' := 26) (L' := [(0, .ref 30), (1, .int i2)]) (st' := [.int i2, .ref 30]) rfl ?_
      refine mz_callV (As := [.int i2]) (rest := []) C E' (f_X2_showScene l D cA ρ hI a3 i2) hy_X2_showScene wl_X2_264 rfl rfl rfl ⟨Nat.le_of_ble_eq_true rfl, Nat.le_of_ble_eq_true rfl⟩ ⟨Nat.le_refl _, Nat.le_refl _⟩ (Nat.le_of_ble_eq_true rfl) (by decide +kernel) ?_ rfl
      refine mz_go FLX2 KLX2 C [(29, .iinc 1 1), (32, .goto (-30))] (by decide +kernel) (pc' := 2) (L' := [(1, .int (i2 + 1)), (0, .ref 30)]) (st' := []) rfl ?_
      have hb13 := hb6 (by rw [hv7] at h1; exact h1)
      rw [show g_X2_showScenes_1 M i2 a3 = (g_X2_showScene a3 i2) from by unfold g_X2_showScenes_1; rw [if_neg h11]] at hb13
      exact mz_sub (by simp) hb13
def g_X2_beginLoop (M : mz_Mem) : mz_Mem := (mz_s (g_X5_goHome (g_X8_restart M)) 75 (fun _ => 0))
theorem g_X2_beginLoop_hs (M : mz_Mem) : mz_hs M (g_X2_beginLoop M) := by
  unfold g_X2_beginLoop
  exact ((g_X8_restart_hs M ).trans (g_X5_goHome_hs (g_X8_restart M) )).trans (mz_hs_s (by decide))

set_option maxHeartbeats 4000000 in
theorem f_X2_beginLoop (l : Launch) (D : va_G) (cA : ClassId) (ρ : Nat → Nat) (hI : mz_I ρ mz_lay1) (M : mz_Mem) : mz_M l D vwCl cA ρ mz_lay1 yX2_beginLoop cX2_beginLoop 1 none 3 65 [.ref 30] M none (g_X2_beginLoop M) := by
  refine mz_in0 (by decide +kernel) (Nat.le_of_ble_eq_true rfl) (fun Γ C E => ?_)
  have E' := (⟨_, _, _, E⟩ : ∃ Qc mc ms, mz_E Γ Qc mc ms (mz_A ρ mz_lay1))
  refine mz_go FLX2 KLX2 C [(0, .aload_n 0), (1, .getfield 40)] (by decide +kernel) (pc' := 4) (L' := [(0, .ref 30)]) (st' := [.ref 40]) rfl ?_
  refine mz_callV (As := []) (rest := []) C E' (f_X8_restart l D cA ρ hI M ) hy_X8_restart wl_X2_90 rfl rfl rfl ⟨Nat.le_of_ble_eq_true rfl, Nat.le_of_ble_eq_true rfl⟩ ⟨Nat.le_refl _, Nat.le_refl _⟩ (Nat.le_of_ble_eq_true rfl) (by decide +kernel) ?_ rfl
  refine mz_go FLX2 KLX2 C [(7, .aload_n 0), (8, .getfield 47)] (by decide +kernel) (pc' := 11) (L' := [(0, .ref 30)]) (st' := [.ref 51]) rfl ?_
  refine mz_callV (As := []) (rest := []) C E' (f_X5_goHome l D cA ρ hI (g_X8_restart M) ) hy_X5_goHome wl_X2_93 rfl rfl rfl ⟨Nat.le_of_ble_eq_true rfl, Nat.le_of_ble_eq_true rfl⟩ ⟨Nat.le_refl _, Nat.le_refl _⟩ (Nat.le_of_ble_eq_true rfl) (by decide +kernel) ?_ rfl
  refine mz_go FLX2 KLX2 C [(14, .aload_n 0), (15, .getfield 54), (18, .getfield 96), (21, .iconst 0)] (by decide +kernel) (pc' := 22) (L' := [(0, .ref 30)]) (st' := [.int 0, .ref 73]) rfl ?_
  refine mz_callV (As := [.int 0]) (rest := []) C E' (f_Grid_fill l D cA ρ hI (g := 73) (r := 74) (a := 75) (n := 144) rfl rfl rfl (by decide) (g_X5_goHome (g_X8_restart M)) 0) hy_X3_fill wl_X2_100 rfl rfl rfl ⟨Nat.le_of_ble_eq_true rfl, Nat.le_of_ble_eq_true rfl⟩ ⟨Nat.le_refl _, Nat.le_refl _⟩ (Nat.le_of_ble_eq_true rfl) (by decide +kernel) ?_ rfl
  exact mz_vret C E (by decide +kernel) (rfl)
def g_X2_run_1 (M : mz_Mem) (m : Int32) (i2 : Int32) (a3 : mz_Mem) : mz_Mem := if (((mz_s a3 30 (upd (a3 30) 7 ((a3 30 7) + 1))) 30 7) - ((mz_s a3 30 (upd (a3 30) 7 ((a3 30 7) + 1))) 30 7) / 20 * 20) = 0 then (g_X2_showScenes (g_X2_moveGuests (g_X2_performScenes (g_X2_moveTracks (g_X2_beginLoop (mz_s a3 30 (upd (a3 30) 7 ((a3 30 7) + 1)))))))) else (g_X2_showScenes (g_X2_moveGuests (g_X2_performScenes (g_X2_moveTracks (mz_s a3 30 (upd (a3 30) 7 ((a3 30 7) + 1)))))))
theorem g_X2_run_1_hs (M : mz_Mem) (m : Int32) (i2 : Int32) (a3 : mz_Mem) : mz_hs a3 (g_X2_run_1 M m i2 a3) := by
  unfold g_X2_run_1
  by_cases h1 : (((mz_s a3 30 (upd (a3 30) 7 ((a3 30 7) + 1))) 30 7) - ((mz_s a3 30 (upd (a3 30) 7 ((a3 30 7) + 1))) 30 7) / 20 * 20) = 0
  · rw [if_pos h1]
    exact (((((mz_hs_s (by decide)).trans (g_X2_beginLoop_hs (mz_s a3 30 (upd (a3 30) 7 ((a3 30 7) + 1))) )).trans (g_X2_moveTracks_hs (g_X2_beginLoop (mz_s a3 30 (upd (a3 30) 7 ((a3 30 7) + 1)))) )).trans (g_X2_performScenes_hs (g_X2_moveTracks (g_X2_beginLoop (mz_s a3 30 (upd (a3 30) 7 ((a3 30 7) + 1))))) )).trans (g_X2_moveGuests_hs (g_X2_performScenes (g_X2_moveTracks (g_X2_beginLoop (mz_s a3 30 (upd (a3 30) 7 ((a3 30 7) + 1)))))) )).trans (g_X2_showScenes_hs (g_X2_moveGuests (g_X2_performScenes (g_X2_moveTracks (g_X2_beginLoop (mz_s a3 30 (upd (a3 30) 7 ((a3 30 7) + 1))))))) )
  · rw [if_neg h1]
    exact ((((mz_hs_s (by decide)).trans (g_X2_moveTracks_hs (mz_s a3 30 (upd (a3 30) 7 ((a3 30 7) + 1))) )).trans (g_X2_performScenes_hs (g_X2_moveTracks (mz_s a3 30 (upd (a3 30) 7 ((a3 30 7) + 1)))) )).trans (g_X2_moveGuests_hs (g_X2_performScenes (g_X2_moveTracks (mz_s a3 30 (upd (a3 30) 7 ((a3 30 7) + 1))))) )).trans (g_X2_showScenes_hs (g_X2_moveGuests (g_X2_performScenes (g_X2_moveTracks (mz_s a3 30 (upd (a3 30) 7 ((a3 30 7) + 1)))))) )

def g_X2_run (M : mz_Mem) (m : Int32) : mz_Mem := (mz_fr m (g_X2_run_1 M m) M)
theorem g_X2_run_hs (M : mz_Mem) (m : Int32) : mz_hs M (g_X2_run M m) := by
  unfold g_X2_run
  exact mz_hs_frp (fun (a : mz_Mem) => a) (fun i a => g_X2_run_1_hs M m i a)

set_option maxHeartbeats 4000000 in
theorem f_X2_run (l : Launch) (D : va_G) (cA : ClassId) (ρ : Nat → Nat) (hI : mz_I ρ mz_lay1) (M : mz_Mem) (m : Int32) : mz_M l D vwCl cA ρ mz_lay1 yX2_run cX2_run 3 none 5 116 [.ref 30, .int m] M none (g_X2_run M m) := by
  refine mz_in0 (by decide +kernel) (Nat.le_of_ble_eq_true rfl) (fun Γ C E => ?_)
  have E' := (⟨_, _, _, E⟩ : ∃ Qc mc ms, mz_E Γ Qc mc ms (mz_A ρ mz_lay1))
  refine mz_go FLX2 KLX2 C [(0, .iconst 0), (1, .istore_n 2)] (by decide +kernel) (pc' := 2) (L' := [(2, .int 0), (0, .ref 30), (1, .int m)]) (st' := []) rfl ?_
  refine mz_sub (L' := [(0, .ref 30), (1, .int m), (2, .int 0)]) (by simp) ?_
  refine mz_loopI m (g_X2_run_1 M m) (fun (i : Int32) (a : mz_Mem) => mz_W Γ ρ 3 0 0 (mz_H D vwCl cA ρ mz_lay1 a) 2 [(0, .ref 30), (1, .int m), (2, .int i)] []) (fun (a : mz_Mem) => True) M trivial (fun i a h => ?_) (fun i2 a3 hi4 hv7 hx5 hb6 => ?_)
  · trivial
  have hv7 : True := hv7
  refine mz_go FLX2 KLX2 C [(2, .iload_n 2), (3, .iload_n 1)] (by decide +kernel) (pc' := 4) (L' := [(0, .ref 30), (1, .int m), (2, .int i2)]) (st' := [.int m, .int i2]) rfl ?_
  refine mz_ige (off := 49) (tgt := 53) C (by decide +kernel) (by decide) (fun h1 => ?_) (fun h1 => ?_)
  · have e10 := hx5 h1
    subst e10
    refine mz_sub (L' := [(0, .ref 30), (1, .int m)]) (by simp) ?_
    exact mz_vret C E (by decide +kernel) (rfl)
  · refine mz_go FLX2 KLX2 C [(7, .aload_n 0), (8, .dup), (9, .getfield 58), (12, .iconst 1), (13, .iadd)] (by decide +kernel) (pc' := 14) (L' := [(0, .ref 30), (1, .int m), (2, .int i2)]) (st' := [.int ((a3 30 7) + 1), .ref 30]) rfl ?_
    refine mz_put (id := 30) (ci := 2) (j := 7) (T := TX2) (N := 8) C E' hI rfl rfl rfl (by decide) iu_X2 tyX2 tyX2_ok nmX2 wf_X2_58 rfl (by decide +kernel) (by decide +kernel) ?_
    refine mz_go FLX2 KLX2 C [(17, .aload_n 0), (18, .getfield 58), (21, .bipush 20)] (by decide +kernel) (pc' := 23) (L' := [(0, .ref 30), (1, .int m), (2, .int i2)]) (st' := [.int 20, .int ((mz_s a3 30 (upd (a3 30) 7 ((a3 30 7) + 1))) 30 7)]) rfl ?_
    refine mz_irem C (by decide) (by decide +kernel) ?_
    refine mz_zne (off := 7) (tgt := 31) C (by decide +kernel) (by decide) (fun h11 => ?_) (fun h11 => ?_)
    · refine mz_go FLX2 KLX2 C [(31, .aload_n 0)] (by decide +kernel) (pc' := 32) (L' := [(0, .ref 30), (1, .int m), (2, .int i2)]) (st' := [.ref 30]) rfl ?_
      refine mz_callV (As := []) (rest := []) C E' (f_X2_moveTracks l D cA ρ hI (mz_s a3 30 (upd (a3 30) 7 ((a3 30 7) + 1))) ) hy_X2_moveTracks wl_X2_78 rfl rfl rfl ⟨Nat.le_of_ble_eq_true rfl, Nat.le_of_ble_eq_true rfl⟩ ⟨Nat.le_refl _, Nat.le_refl _⟩ (Nat.le_of_ble_eq_true rfl) (by decide +kernel) ?_ rfl
      refine mz_go FLX2 KLX2 C [(35, .aload_n 0)] (by decide +kernel) (pc' := 36) (L' := [(0, .ref 30), (1, .int m), (2, .int i2)]) (st' := [.ref 30]) rfl ?_
      refine mz_callV (As := []) (rest := []) C E' (f_X2_performScenes l D cA ρ hI (g_X2_moveTracks (mz_s a3 30 (upd (a3 30) 7 ((a3 30 7) + 1)))) ) hy_X2_performScenes wl_X2_81 rfl rfl rfl ⟨Nat.le_of_ble_eq_true rfl, Nat.le_of_ble_eq_true rfl⟩ ⟨Nat.le_refl _, Nat.le_refl _⟩ (Nat.le_of_ble_eq_true rfl) (by decide +kernel) ?_ rfl
      refine mz_go FLX2 KLX2 C [(39, .aload_n 0)] (by decide +kernel) (pc' := 40) (L' := [(0, .ref 30), (1, .int m), (2, .int i2)]) (st' := [.ref 30]) rfl ?_
      refine mz_callV (As := []) (rest := []) C E' (f_X2_moveGuests l D cA ρ hI (g_X2_performScenes (g_X2_moveTracks (mz_s a3 30 (upd (a3 30) 7 ((a3 30 7) + 1))))) ) hy_X2_moveGuests wl_X2_84 rfl rfl rfl ⟨Nat.le_of_ble_eq_true rfl, Nat.le_of_ble_eq_true rfl⟩ ⟨Nat.le_refl _, Nat.le_refl _⟩ (Nat.le_of_ble_eq_true rfl) (by decide +kernel) ?_ rfl
      refine mz_go FLX2 KLX2 C [(43, .aload_n 0)] (by decide +kernel) (pc' := 44) (L' := [(0, .ref 30), (1, .int m), (2, .int i2)]) (st' := [.ref 30]) rfl ?_
      refine mz_callV (As := []) (rest := []) C E' (f_X2_showScenes l D cA ρ hI (g_X2_moveGuests (g_X2_performScenes (g_X2_moveTracks (mz_s a3 30 (upd (a3 30) 7 ((a3 30 7) + 1)))))) ) hy_X2_showScenes wl_X2_87 rfl rfl rfl ⟨Nat.le_of_ble_eq_true rfl, Nat.le_of_ble_eq_true rfl⟩ ⟨Nat.le_refl _, Nat.le_refl _⟩ (Nat.le_of_ble_eq_true rfl) (by decide +kernel) ?_ rfl
      refine mz_go FLX2 KLX2 C [(47, .iinc 2 1), (50, .goto (-48))] (by decide +kernel) (pc' := 2) (L' := [(2, .int (i2 + 1)), (0, .ref 30), (1, .int m)]) (st' := []) rfl ?_
      have hb12 := hb6 h1
      rw [show g_X2_run_1 M m i2 a3 = (g_X2_showScenes (g_X2_moveGuests (g_X2_performScenes (g_X2_moveTracks (mz_s a3 30 (upd (a3 30) 7 ((a3 30 7) + 1))))))) from by unfold g_X2_run_1; rw [if_neg h11]] at hb12
      exact mz_sub (by simp) hb12
    · refine mz_go FLX2 KLX2 C [(27, .aload_n 0)] (by decide +kernel) (pc' := 28) (L' := [(0, .ref 30), (1, .int m), (2, .int i2)]) (st' := [.ref 30]) rfl ?_
      refine mz_callV (As := []) (rest := []) C E' (f_X2_beginLoop l D cA ρ hI (mz_s a3 30 (upd (a3 30) 7 ((a3 30 7) + 1))) ) hy_X2_beginLoop wl_X2_75 rfl rfl rfl ⟨Nat.le_of_ble_eq_true rfl, Nat.le_of_ble_eq_true rfl⟩ ⟨Nat.le_refl _, Nat.le_refl _⟩ (Nat.le_of_ble_eq_true rfl) (by decide +kernel) ?_ rfl
      refine mz_go FLX2 KLX2 C [(31, .aload_n 0)] (by decide +kernel) (pc' := 32) (L' := [(0, .ref 30), (1, .int m), (2, .int i2)]) (st' := [.ref 30]) rfl ?_
      refine mz_callV (As := []) (rest := []) C E' (f_X2_moveTracks l D cA ρ hI (g_X2_beginLoop (mz_s a3 30 (upd (a3 30) 7 ((a3 30 7) + 1)))) ) hy_X2_moveTracks wl_X2_78 rfl rfl rfl ⟨Nat.le_of_ble_eq_true rfl, Nat.le_of_ble_eq_true rfl⟩ ⟨Nat.le_refl _, Nat.le_refl _⟩ (Nat.le_of_ble_eq_true rfl) (by decide +kernel) ?_ rfl
      refine mz_go FLX2 KLX2 C [(35, .aload_n 0)] (by decide +kernel) (pc' := 36) (L' := [(0, .ref 30), (1, .int m), (2, .int i2)]) (st' := [.ref 30]) rfl ?_
      refine mz_callV (As := []) (rest := []) C E' (f_X2_performScenes l D cA ρ hI (g_X2_moveTracks (g_X2_beginLoop (mz_s a3 30 (upd (a3 30) 7 ((a3 30 7) + 1))))) ) hy_X2_performScenes wl_X2_81 rfl rfl rfl ⟨Nat.le_of_ble_eq_true rfl, Nat.le_of_ble_eq_true rfl⟩ ⟨Nat.le_refl _, Nat.le_refl _⟩ (Nat.le_of_ble_eq_true rfl) (by decide +kernel) ?_ rfl
      refine mz_go FLX2 KLX2 C [(39, .aload_n 0)] (by decide +kernel) (pc' := 40) (L' := [(0, .ref 30), (1, .int m), (2, .int i2)]) (st' := [.ref 30]) rfl ?_
      refine mz_callV (As := []) (rest := []) C E' (f_X2_moveGuests l D cA ρ hI (g_X2_performScenes (g_X2_moveTracks (g_X2_beginLoop (mz_s a3 30 (upd (a3 30) 7 ((a3 30 7) + 1)))))) ) hy_X2_moveGuests wl_X2_84 rfl rfl rfl ⟨Nat.le_of_ble_eq_true rfl, Nat.le_of_ble_eq_true rfl⟩ ⟨Nat.le_refl _, Nat.le_refl _⟩ (Nat.le_of_ble_eq_true rfl) (by decide +kernel) ?_ rfl
      refine mz_go FLX2 KLX2 C [(43, .aload_n 0)] (by decide +kernel) (pc' := 44) (L' := [(0, .ref 30), (1, .int m), (2, .int i2)]) (st' := [.ref 30]) rfl ?_
      refine mz_callV (As := []) (rest := []) C E' (f_X2_showScenes l D cA ρ hI (g_X2_moveGuests (g_X2_performScenes (g_X2_moveTracks (g_X2_beginLoop (mz_s a3 30 (upd (a3 30) 7 ((a3 30 7) + 1))))))) ) hy_X2_showScenes wl_X2_87 rfl rfl rfl ⟨Nat.le_of_ble_eq_true rfl, Nat.le_of_ble_eq_true rfl⟩ ⟨Nat.le_refl _, Nat.le_refl _⟩ (Nat.le_of_ble_eq_true rfl) (by decide +kernel) ?_ rfl
      refine mz_go FLX2 KLX2 C [(47, .iinc 2 1), (50, .goto (-48))] (by decide +kernel) (pc' := 2) (L' := [(2, .int (i2 + 1)), (0, .ref 30), (1, .int m)]) (st' := []) rfl ?_
      have hb13 := hb6 h1
      rw [show g_X2_run_1 M m i2 a3 = (g_X2_showScenes (g_X2_moveGuests (g_X2_performScenes (g_X2_moveTracks (g_X2_beginLoop (mz_s a3 30 (upd (a3 30) 7 ((a3 30 7) + 1)))))))) from by unfold g_X2_run_1; rw [if_pos h11]] at hb13
      exact mz_sub (by simp) hb13
end
section
def g_X2_roomOfProp (M : mz_Mem) (p : Int32) : Int32 := if (mz_rg 4 (M 55) p) = (-1) then (if (mz_rg 4 (M 57) p) = (-1) then (mz_rg 4 (M 53) p) else (mz_rg 12 (M 62) (mz_rg 4 (M 57) p))) else (mz_rg 5 (M 35) (mz_rg 4 (M 55) p))
set_option maxHeartbeats 4000000 in
theorem f_X2_roomOfProp (l : Launch) (D : va_G) (cA : ClassId) (ρ : Nat → Nat) (hI : mz_I ρ mz_lay1) (M : mz_Mem) (p : Int32) : mz_M l D vwCl cA ρ mz_lay1 yX2_roomOfProp cX2_roomOfProp 2 (some .int) 1 21 [.ref 30, .int p] M (some (.int (g_X2_roomOfProp M p))) M := by
  refine mz_in0 (by decide +kernel) (Nat.le_of_ble_eq_true rfl) (fun Γ C E => ?_)
  have E' := (⟨_, _, _, E⟩ : ∃ Qc mc ms, mz_E Γ Qc mc ms (mz_A ρ mz_lay1))
  refine mz_go FLX2 KLX2 C [(0, .aload_n 0), (1, .getfield 47), (4, .getfield 199), (7, .iload_n 1)] (by decide +kernel) (pc' := 8) (L' := [(0, .ref 30), (1, .int p)]) (st' := [.int p, .ref 54]) rfl ?_
  refine mz_callV (As := [.int p]) (rest := []) C E' (f_Row_get l D cA ρ hI (r := 54) (a := 55) (n := 4) rfl rfl (by decide) M p) hy_X6_get wl_X2_121 rfl rfl rfl ⟨Nat.le_of_ble_eq_true rfl, Nat.le_of_ble_eq_true rfl⟩ ⟨Nat.le_refl _, Nat.le_refl _⟩ (Nat.le_of_ble_eq_true rfl) (by decide +kernel) ?_ rfl
  refine mz_go FLX2 KLX2 C [(11, .iconst (-1))] (by decide +kernel) (pc' := 12) (L' := [(0, .ref 30), (1, .int p)]) (st' := [.int (-1), .int (mz_rg 4 (M 55) p)]) rfl ?_
  refine mz_ieq (off := 25) (tgt := 37) C (by decide +kernel) (by decide) (fun h1 => ?_) (fun h1 => ?_)
  · refine mz_go FLX2 KLX2 C [(37, .aload_n 0), (38, .getfield 47), (41, .getfield 273), (44, .iload_n 1)] (by decide +kernel) (pc' := 45) (L' := [(0, .ref 30), (1, .int p)]) (st' := [.int p, .ref 56]) rfl ?_
    refine mz_callV (As := [.int p]) (rest := []) C E' (f_Row_get l D cA ρ hI (r := 56) (a := 57) (n := 4) rfl rfl (by decide) M p) hy_X6_get wl_X2_121 rfl rfl rfl ⟨Nat.le_of_ble_eq_true rfl, Nat.le_of_ble_eq_true rfl⟩ ⟨Nat.le_refl _, Nat.le_refl _⟩ (Nat.le_of_ble_eq_true rfl) (by decide +kernel) ?_ rfl
    refine mz_go FLX2 KLX2 C [(48, .iconst (-1))] (by decide +kernel) (pc' := 49) (L' := [(0, .ref 30), (1, .int p)]) (st' := [.int (-1), .int (mz_rg 4 (M 57) p)]) rfl ?_
    refine mz_ieq (off := 25) (tgt := 74) C (by decide +kernel) (by decide) (fun h2 => ?_) (fun h2 => ?_)
    · refine mz_go FLX2 KLX2 C [(74, .aload_n 0), (75, .getfield 47), (78, .getfield 198), (81, .iload_n 1)] (by decide +kernel) (pc' := 82) (L' := [(0, .ref 30), (1, .int p)]) (st' := [.int p, .ref 52]) rfl ?_
      refine mz_callV (As := [.int p]) (rest := []) C E' (f_Row_get l D cA ρ hI (r := 52) (a := 53) (n := 4) rfl rfl (by decide) M p) hy_X6_get wl_X2_121 rfl rfl rfl ⟨Nat.le_of_ble_eq_true rfl, Nat.le_of_ble_eq_true rfl⟩ ⟨Nat.le_refl _, Nat.le_refl _⟩ (Nat.le_of_ble_eq_true rfl) (by decide +kernel) ?_ rfl
      exact mz_iret C E (by decide +kernel) (by unfold g_X2_roomOfProp; rw [if_pos h1, if_pos h2]; try rfl) (rfl)
    · refine mz_go FLX2 KLX2 C [(52, .aload_n 0), (53, .getfield 54), (56, .getfield 210), (59, .aload_n 0), (60, .getfield 47), (63, .getfield 273), (66, .iload_n 1)] (by decide +kernel) (pc' := 67) (L' := [(0, .ref 30), (1, .int p)]) (st' := [.int p, .ref 56, .ref 61]) rfl ?_
      refine mz_callV (As := [.int p]) (rest := [.ref 61]) C E' (f_Row_get l D cA ρ hI (r := 56) (a := 57) (n := 4) rfl rfl (by decide) M p) hy_X6_get wl_X2_121 rfl rfl rfl ⟨Nat.le_of_ble_eq_true rfl, Nat.le_of_ble_eq_true rfl⟩ ⟨Nat.le_refl _, Nat.le_refl _⟩ (Nat.le_of_ble_eq_true rfl) (by decide +kernel) ?_ rfl
      refine mz_callV (As := [.int (mz_rg 4 (M 57) p)]) (rest := []) C E' (f_Row_get l D cA ρ hI (r := 61) (a := 62) (n := 12) rfl rfl (by decide) M (mz_rg 4 (M 57) p)) hy_X6_get wl_X2_121 rfl rfl rfl ⟨Nat.le_of_ble_eq_true rfl, Nat.le_of_ble_eq_true rfl⟩ ⟨Nat.le_refl _, Nat.le_refl _⟩ (Nat.le_of_ble_eq_true rfl) (by decide +kernel) ?_ rfl
      exact mz_iret C E (by decide +kernel) (by unfold g_X2_roomOfProp; rw [if_pos h1, if_neg h2]; try rfl) (rfl)
  · refine mz_go FLX2 KLX2 C [(15, .aload_n 0), (16, .getfield 33), (19, .getfield 137), (22, .aload_n 0), (23, .getfield 47), (26, .getfield 199), (29, .iload_n 1)] (by decide +kernel) (pc' := 30) (L' := [(0, .ref 30), (1, .int p)]) (st' := [.int p, .ref 54, .ref 34]) rfl ?_
    refine mz_callV (As := [.int p]) (rest := [.ref 34]) C E' (f_Row_get l D cA ρ hI (r := 54) (a := 55) (n := 4) rfl rfl (by decide) M p) hy_X6_get wl_X2_121 rfl rfl rfl ⟨Nat.le_of_ble_eq_true rfl, Nat.le_of_ble_eq_true rfl⟩ ⟨Nat.le_refl _, Nat.le_refl _⟩ (Nat.le_of_ble_eq_true rfl) (by decide +kernel) ?_ rfl
    refine mz_callV (As := [.int (mz_rg 4 (M 55) p)]) (rest := []) C E' (f_Row_get l D cA ρ hI (r := 34) (a := 35) (n := 5) rfl rfl (by decide) M (mz_rg 4 (M 55) p)) hy_X6_get wl_X2_121 rfl rfl rfl ⟨Nat.le_of_ble_eq_true rfl, Nat.le_of_ble_eq_true rfl⟩ ⟨Nat.le_refl _, Nat.le_refl _⟩ (Nat.le_of_ble_eq_true rfl) (by decide +kernel) ?_ rfl
    exact mz_iret C E (by decide +kernel) (by unfold g_X2_roomOfProp; rw [if_neg h1]; try rfl) (rfl)
def g_X2_isInUse_1 (M : mz_Mem) (p : Int32) (r : Int32) (i6 : Int32) : Bool := if (g_X8_runs M i6) = 0 then false else if (mz_rg 12 (M 21) i6) = r then (if (mz_rg 12 (M 29) i6) = p then true else false) else false
def g_X2_isInUse (M : mz_Mem) (p : Int32) (r : Int32) : Int32 := (match mz_find (M 15 2) (g_X2_isInUse_1 M p r) with | some i6 => 1 | none => 0)
set_option maxHeartbeats 4000000 in
theorem f_X2_isInUse (l : Launch) (D : va_G) (cA : ClassId) (ρ : Nat → Nat) (hI : mz_I ρ mz_lay1) (M : mz_Mem) (p : Int32) (r : Int32) : mz_M l D vwCl cA ρ mz_lay1 yX2_isInUse cX2_isInUse 4 (some .boolean) 2 42 [.ref 30, .int p, .int r] M (some (.int (g_X2_isInUse M p r))) M := by
  refine mz_in0 (by decide +kernel) (Nat.le_of_ble_eq_true rfl) (fun Γ C E => ?_)
  have E' := (⟨_, _, _, E⟩ : ∃ Qc mc ms, mz_E Γ Qc mc ms (mz_A ρ mz_lay1))
  refine mz_go FLX2 KLX2 C [(0, .iconst 0), (1, .istore_n 3)] (by decide +kernel) (pc' := 2) (L' := [(3, .int 0), (0, .ref 30), (1, .int p), (2, .int r)]) (st' := []) rfl ?_
  refine mz_sub (L' := [(0, .ref 30), (1, .int p), (2, .int r), (3, .int 0)]) (by simp) ?_
  refine mz_loopf (M 15 2) (g_X2_isInUse_1 M p r) (fun i => mz_W Γ ρ 4 0 0 (mz_H D vwCl cA ρ mz_lay1 M) 2 [(0, .ref 30), (1, .int p), (2, .int r), (3, .int i)] []) (fun i6 hi5 hx3 hp4 ih2 => ?_)
  refine mz_go FLX2 KLX2 C [(2, .iload_n 3), (3, .aload_n 0), (4, .getfield 24), (7, .getfield 149)] (by decide +kernel) (pc' := 10) (L' := [(0, .ref 30), (1, .int p), (2, .int r), (3, .int i6)]) (st' := [.int (M 15 2), .int i6]) rfl ?_
  refine mz_ige (off := 52) (tgt := 62) C (by decide +kernel) (by decide) (fun h1 => ?_) (fun h1 => ?_)
  · have hf7 := hx3 h1
    refine mz_sub (L' := [(0, .ref 30), (1, .int p), (2, .int r)]) (by simp) ?_
    refine mz_go FLX2 KLX2 C [(62, .iconst 0)] (by decide +kernel) (pc' := 63) (L' := [(0, .ref 30), (1, .int p), (2, .int r)]) (st' := [.int 0]) rfl ?_
    exact mz_zret C E (by decide +kernel) (Or.inl rfl) (by unfold g_X2_isInUse; rw [hf7]; try rfl) (rfl)
  · refine mz_go FLX2 KLX2 C [(13, .aload_n 0), (14, .getfield 40), (17, .iload_n 3)] (by decide +kernel) (pc' := 18) (L' := [(0, .ref 30), (1, .int p), (2, .int r), (3, .int i6)]) (st' := [.int i6, .ref 40]) rfl ?_
    refine mz_callV (As := [.int i6]) (rest := []) C E' (f_X8_runs l D cA ρ hI M i6) hy_X8_runs wl_X2_152 rfl rfl rfl ⟨Nat.le_of_ble_eq_true rfl, Nat.le_of_ble_eq_true rfl⟩ ⟨Nat.le_refl _, Nat.le_refl _⟩ (Nat.le_of_ble_eq_true rfl) (by decide +kernel) ?_ rfl
    refine mz_zeq (off := 35) (tgt := 56) C (by decide +kernel) (by decide) (fun h8 => ?_) (fun h8 => ?_)
    · refine mz_go FLX2 KLX2 C [(56, .iinc 3 1), (59, .goto (-57))] (by decide +kernel) (pc' := 2) (L' := [(3, .int (i6 + 1)), (0, .ref 30), (1, .int p), (2, .int r)]) (st' := []) rfl ?_
      exact mz_sub (by simp) (ih2 h1 (by unfold g_X2_isInUse_1; rw [if_pos h8]))
    · refine mz_go FLX2 KLX2 C [(24, .aload_n 0), (25, .getfield 24), (28, .getfield 130), (31, .iload_n 3)] (by decide +kernel) (pc' := 32) (L' := [(0, .ref 30), (1, .int p), (2, .int r), (3, .int i6)]) (st' := [.int i6, .ref 20]) rfl ?_
      refine mz_callV (As := [.int i6]) (rest := []) C E' (f_Row_get l D cA ρ hI (r := 20) (a := 21) (n := 12) rfl rfl (by decide) M i6) hy_X6_get wl_X2_121 rfl rfl rfl ⟨Nat.le_of_ble_eq_true rfl, Nat.le_of_ble_eq_true rfl⟩ ⟨Nat.le_refl _, Nat.le_refl _⟩ (Nat.le_of_ble_eq_true rfl) (by decide +kernel) ?_ rfl
      refine mz_go FLX2 KLX2 C [(35, .iload_n 2)] (by decide +kernel) (pc' := 36) (L' := [(0, .ref 30), (1, .int p), (2, .int r), (3, .int i6)]) (st' := [.int r, .int (mz_rg 12 (M 21) i6)]) rfl ?_
      refine mz_ine (off := 20) (tgt := 56) C (by decide +kernel) (by decide) (fun h9 => ?_) (fun h9 => ?_)
      · refine mz_go FLX2 KLX2 C [(56, .iinc 3 1), (59, .goto (-57))] (by decide +kernel) (pc' := 2) (L' := [(3, .int (i6 + 1)), (0, .ref 30), (1, .int p), (2, .int r)]) (st' := []) rfl ?_
        exact mz_sub (by simp) (ih2 h1 (by unfold g_X2_isInUse_1; rw [if_neg h8, if_neg h9]))
      · refine mz_go FLX2 KLX2 C [(39, .aload_n 0), (40, .getfield 24), (43, .getfield 177), (46, .iload_n 3)] (by decide +kernel) (pc' := 47) (L' := [(0, .ref 30), (1, .int p), (2, .int r), (3, .int i6)]) (st' := [.int i6, .ref 28]) rfl ?_
        refine mz_callV (As := [.int i6]) (rest := []) C E' (f_Row_get l D cA ρ hI (r := 28) (a := 29) (n := 12) rfl rfl (by decide) M i6) hy_X6_get wl_X2_121 rfl rfl rfl ⟨Nat.le_of_ble_eq_true rfl, Nat.le_of_ble_eq_true rfl⟩ ⟨Nat.le_refl _, Nat.le_refl _⟩ (Nat.le_of_ble_eq_true rfl) (by decide +kernel) ?_ rfl
        refine mz_go FLX2 KLX2 C [(50, .iload_n 1)] (by decide +kernel) (pc' := 51) (L' := [(0, .ref 30), (1, .int p), (2, .int r), (3, .int i6)]) (st' := [.int p, .int (mz_rg 12 (M 29) i6)]) rfl ?_
        refine mz_ine (off := 5) (tgt := 56) C (by decide +kernel) (by decide) (fun h10 => ?_) (fun h10 => ?_)
        · refine mz_go FLX2 KLX2 C [(56, .iinc 3 1), (59, .goto (-57))] (by decide +kernel) (pc' := 2) (L' := [(3, .int (i6 + 1)), (0, .ref 30), (1, .int p), (2, .int r)]) (st' := []) rfl ?_
          exact mz_sub (by simp) (ih2 h1 (by unfold g_X2_isInUse_1; rw [if_neg h8, if_pos h9, if_neg h10]))
        · refine mz_go FLX2 KLX2 C [(54, .iconst 1)] (by decide +kernel) (pc' := 55) (L' := [(0, .ref 30), (1, .int p), (2, .int r), (3, .int i6)]) (st' := [.int 1]) rfl ?_
          have hf11 := hp4 h1 (by unfold g_X2_isInUse_1; rw [if_neg h8, if_pos h9, if_pos h10])
          exact mz_zret C E (by decide +kernel) (Or.inr rfl) (by unfold g_X2_isInUse; rw [hf11]; try rfl) (rfl)
def g_X2_canTake (M : mz_Mem) (g : Int32) (p : Int32) : Int32 := if (mz_rg 4 (M 53) p) = (mz_rg 12 (M 62) g) then (if (g_X5_heldByGuest M g) = (-1) then (if (g_X2_isInUse M p (mz_rg 12 (M 62) g)) = 0 then 1 else 0) else 0) else 0
set_option maxHeartbeats 4000000 in
theorem f_X2_canTake (l : Launch) (D : va_G) (cA : ClassId) (ρ : Nat → Nat) (hI : mz_I ρ mz_lay1) (M : mz_Mem) (g : Int32) (p : Int32) : mz_M l D vwCl cA ρ mz_lay1 yX2_canTake cX2_canTake 4 (some .boolean) 3 65 [.ref 30, .int g, .int p] M (some (.int (g_X2_canTake M g p))) M := by
  refine mz_in0 (by decide +kernel) (Nat.le_of_ble_eq_true rfl) (fun Γ C E => ?_)
  have E' := (⟨_, _, _, E⟩ : ∃ Qc mc ms, mz_E Γ Qc mc ms (mz_A ρ mz_lay1))
  refine mz_go FLX2 KLX2 C [(0, .aload_n 0), (1, .getfield 54), (4, .getfield 210), (7, .iload_n 1)] (by decide +kernel) (pc' := 8) (L' := [(0, .ref 30), (1, .int g), (2, .int p)]) (st' := [.int g, .ref 61]) rfl ?_
  refine mz_callV (As := [.int g]) (rest := []) C E' (f_Row_get l D cA ρ hI (r := 61) (a := 62) (n := 12) rfl rfl (by decide) M g) hy_X6_get wl_X2_121 rfl rfl rfl ⟨Nat.le_of_ble_eq_true rfl, Nat.le_of_ble_eq_true rfl⟩ ⟨Nat.le_refl _, Nat.le_refl _⟩ (Nat.le_of_ble_eq_true rfl) (by decide +kernel) ?_ rfl
  refine mz_go FLX2 KLX2 C [(11, .istore_n 3), (12, .aload_n 0), (13, .getfield 47), (16, .getfield 198), (19, .iload_n 2)] (by decide +kernel) (pc' := 20) (L' := [(3, .int (mz_rg 12 (M 62) g)), (0, .ref 30), (1, .int g), (2, .int p)]) (st' := [.int p, .ref 52]) rfl ?_
  refine mz_callV (As := [.int p]) (rest := []) C E' (f_Row_get l D cA ρ hI (r := 52) (a := 53) (n := 4) rfl rfl (by decide) M p) hy_X6_get wl_X2_121 rfl rfl rfl ⟨Nat.le_of_ble_eq_true rfl, Nat.le_of_ble_eq_true rfl⟩ ⟨Nat.le_refl _, Nat.le_refl _⟩ (Nat.le_of_ble_eq_true rfl) (by decide +kernel) ?_ rfl
  refine mz_go FLX2 KLX2 C [(23, .iload_n 3)] (by decide +kernel) (pc' := 24) (L' := [(3, .int (mz_rg 12 (M 62) g)), (0, .ref 30), (1, .int g), (2, .int p)]) (st' := [.int (mz_rg 12 (M 62) g), .int (mz_rg 4 (M 53) p)]) rfl ?_
  refine mz_ine (off := 28) (tgt := 52) C (by decide +kernel) (by decide) (fun h1 => ?_) (fun h1 => ?_)
  · refine mz_go FLX2 KLX2 C [(52, .iconst 0)] (by decide +kernel) (pc' := 53) (L' := [(3, .int (mz_rg 12 (M 62) g)), (0, .ref 30), (1, .int g), (2, .int p)]) (st' := [.int 0]) rfl ?_
    exact mz_zret C E (by decide +kernel) (Or.inl rfl) (by unfold g_X2_canTake; rw [if_neg h1]; try rfl) (rfl)
  · refine mz_go FLX2 KLX2 C [(27, .aload_n 0), (28, .getfield 47), (31, .iload_n 1)] (by decide +kernel) (pc' := 32) (L' := [(3, .int (mz_rg 12 (M 62) g)), (0, .ref 30), (1, .int g), (2, .int p)]) (st' := [.int g, .ref 51]) rfl ?_
    refine mz_callV (As := [.int g]) (rest := []) C E' (f_X5_heldByGuest l D cA ρ hI M g) hy_X5_heldByGuest wl_X2_276 rfl rfl rfl ⟨Nat.le_of_ble_eq_true rfl, Nat.le_of_ble_eq_true rfl⟩ ⟨Nat.le_refl _, Nat.le_refl _⟩ (Nat.le_of_ble_eq_true rfl) (by decide +kernel) ?_ rfl
    refine mz_go FLX2 KLX2 C [(35, .iconst (-1))] (by decide +kernel) (pc' := 36) (L' := [(3, .int (mz_rg 12 (M 62) g)), (0, .ref 30), (1, .int g), (2, .int p)]) (st' := [.int (-1), .int (g_X5_heldByGuest M g)]) rfl ?_
    refine mz_ine (off := 16) (tgt := 52) C (by decide +kernel) (by decide) (fun h2 => ?_) (fun h2 => ?_)
    · refine mz_go FLX2 KLX2 C [(52, .iconst 0)] (by decide +kernel) (pc' := 53) (L' := [(3, .int (mz_rg 12 (M 62) g)), (0, .ref 30), (1, .int g), (2, .int p)]) (st' := [.int 0]) rfl ?_
      exact mz_zret C E (by decide +kernel) (Or.inl rfl) (by unfold g_X2_canTake; rw [if_pos h1, if_neg h2]; try rfl) (rfl)
    · refine mz_go FLX2 KLX2 C [(39, .aload_n 0), (40, .iload_n 2), (41, .iload_n 3)] (by decide +kernel) (pc' := 42) (L' := [(3, .int (mz_rg 12 (M 62) g)), (0, .ref 30), (1, .int g), (2, .int p)]) (st' := [.int (mz_rg 12 (M 62) g), .int p, .ref 30]) rfl ?_
      refine mz_callV (As := [.int p, .int (mz_rg 12 (M 62) g)]) (rest := []) C E' (f_X2_isInUse l D cA ρ hI M p (mz_rg 12 (M 62) g)) hy_X2_isInUse wl_X2_279 rfl rfl rfl ⟨Nat.le_of_ble_eq_true rfl, Nat.le_of_ble_eq_true rfl⟩ ⟨Nat.le_refl _, Nat.le_refl _⟩ (Nat.le_of_ble_eq_true rfl) (by decide +kernel) ?_ rfl
      refine mz_zne (off := 7) (tgt := 52) C (by decide +kernel) (by decide) (fun h3 => ?_) (fun h3 => ?_)
      · refine mz_go FLX2 KLX2 C [(52, .iconst 0)] (by decide +kernel) (pc' := 53) (L' := [(3, .int (mz_rg 12 (M 62) g)), (0, .ref 30), (1, .int g), (2, .int p)]) (st' := [.int 0]) rfl ?_
        exact mz_zret C E (by decide +kernel) (Or.inl rfl) (by unfold g_X2_canTake; rw [if_pos h1, if_pos h2, if_neg h3]; try rfl) (rfl)
      · refine mz_go FLX2 KLX2 C [(48, .iconst 1), (49, .goto 4)] (by decide +kernel) (pc' := 53) (L' := [(3, .int (mz_rg 12 (M 62) g)), (0, .ref 30), (1, .int g), (2, .int p)]) (st' := [.int 1]) rfl ?_
        exact mz_zret C E (by decide +kernel) (Or.inr rfl) (by unfold g_X2_canTake; rw [if_pos h1, if_pos h2, if_pos h3]; try rfl) (rfl)
def g_X2_canDouble (M : mz_Mem) (t : Int32) (b : Int32) : Int32 := if ((g_X8_busyTracks M) &&& ((1 <<< (t &&& 31)) ||| (1 <<< (b &&& 31)))) = 0 then (if (g_X1_isSingle M t) = 0 then 0 else if (g_X1_isSingle M b) = 0 then 0 else if (g_X7_overlap M t b) = 0 then 1 else 0) else 0
set_option maxHeartbeats 4000000 in
theorem f_X2_canDouble (l : Launch) (D : va_G) (cA : ClassId) (ρ : Nat → Nat) (hI : mz_I ρ mz_lay1) (M : mz_Mem) (t : Int32) (b : Int32) : mz_M l D vwCl cA ρ mz_lay1 yX2_canDouble cX2_canDouble 4 (some .boolean) 3 70 [.ref 30, .int t, .int b] M (some (.int (g_X2_canDouble M t b))) M := by
  refine mz_in0 (by decide +kernel) (Nat.le_of_ble_eq_true rfl) (fun Γ C E => ?_)
  have E' := (⟨_, _, _, E⟩ : ∃ Qc mc ms, mz_E Γ Qc mc ms (mz_A ρ mz_lay1))
  refine mz_go FLX2 KLX2 C [(0, .aload_n 0), (1, .getfield 40)] (by decide +kernel) (pc' := 4) (L' := [(0, .ref 30), (1, .int t), (2, .int b)]) (st' := [.ref 40]) rfl ?_
  refine mz_callV (As := []) (rest := []) C E' (f_X8_busyTracks l D cA ρ hI M ) hy_X8_busyTracks wl_X2_105 rfl rfl rfl ⟨Nat.le_of_ble_eq_true rfl, Nat.le_of_ble_eq_true rfl⟩ ⟨Nat.le_refl _, Nat.le_refl _⟩ (Nat.le_of_ble_eq_true rfl) (by decide +kernel) ?_ rfl
  refine mz_go FLX2 KLX2 C [(7, .iconst 1), (8, .iload_n 1), (9, .ishl), (10, .iconst 1), (11, .iload_n 2), (12, .ishl), (13, .ior), (14, .iand)] (by decide +kernel) (pc' := 15) (L' := [(0, .ref 30), (1, .int t), (2, .int b)]) (st' := [.int ((g_X8_busyTracks M) &&& ((1 <<< (t &&& 31)) ||| (1 <<< (b &&& 31))))]) rfl ?_
  refine mz_zne (off := 7) (tgt := 22) C (by decide +kernel) (by decide) (fun h1 => ?_) (fun h1 => ?_)
  · refine mz_go FLX2 KLX2 C [(22, .iconst 0), (23, .istore_n 3), (24, .iload_n 3)] (by decide +kernel) (pc' := 25) (L' := [(3, .int 0), (0, .ref 30), (1, .int t), (2, .int b)]) (st' := [.int 0]) rfl ?_
    refine mz_zeq (off := 41) (tgt := 66) C (by decide +kernel) (by decide) (fun _ => ?_) (fun h2 => absurd h2 (by decide))
    refine mz_go FLX2 KLX2 C [(66, .iconst 0)] (by decide +kernel) (pc' := 67) (L' := [(3, .int 0), (0, .ref 30), (1, .int t), (2, .int b)]) (st' := [.int 0]) rfl ?_
    exact mz_zret C E (by decide +kernel) (Or.inl rfl) (by unfold g_X2_canDouble; rw [if_neg h1]; try rfl) (rfl)
  · refine mz_go FLX2 KLX2 C [(18, .iconst 1), (19, .goto 4), (23, .istore_n 3), (24, .iload_n 3)] (by decide +kernel) (pc' := 25) (L' := [(3, .int 1), (0, .ref 30), (1, .int t), (2, .int b)]) (st' := [.int 1]) rfl ?_
    refine mz_zeq (off := 41) (tgt := 66) C (by decide +kernel) (by decide) (fun h3 => absurd h3 (by decide)) (fun _ => ?_)
    refine mz_go FLX2 KLX2 C [(28, .aload_n 0), (29, .getfield 33), (32, .iload_n 1)] (by decide +kernel) (pc' := 33) (L' := [(3, .int 1), (0, .ref 30), (1, .int t), (2, .int b)]) (st' := [.int t, .ref 33]) rfl ?_
    refine mz_callV (As := [.int t]) (rest := []) C E' (f_X1_isSingle l D cA ρ hI M t) hy_X1_isSingle wl_X2_282 rfl rfl rfl ⟨Nat.le_of_ble_eq_true rfl, Nat.le_of_ble_eq_true rfl⟩ ⟨Nat.le_refl _, Nat.le_refl _⟩ (Nat.le_of_ble_eq_true rfl) (by decide +kernel) ?_ rfl
    refine mz_zeq (off := 30) (tgt := 66) C (by decide +kernel) (by decide) (fun h4 => ?_) (fun h4 => ?_)
    · refine mz_go FLX2 KLX2 C [(66, .iconst 0)] (by decide +kernel) (pc' := 67) (L' := [(3, .int 1), (0, .ref 30), (1, .int t), (2, .int b)]) (st' := [.int 0]) rfl ?_
      exact mz_zret C E (by decide +kernel) (Or.inl rfl) (by unfold g_X2_canDouble; rw [if_pos h1, if_pos h4]; try rfl) (rfl)
    · refine mz_go FLX2 KLX2 C [(39, .aload_n 0), (40, .getfield 33), (43, .iload_n 2)] (by decide +kernel) (pc' := 44) (L' := [(3, .int 1), (0, .ref 30), (1, .int t), (2, .int b)]) (st' := [.int b, .ref 33]) rfl ?_
      refine mz_callV (As := [.int b]) (rest := []) C E' (f_X1_isSingle l D cA ρ hI M b) hy_X1_isSingle wl_X2_282 rfl rfl rfl ⟨Nat.le_of_ble_eq_true rfl, Nat.le_of_ble_eq_true rfl⟩ ⟨Nat.le_refl _, Nat.le_refl _⟩ (Nat.le_of_ble_eq_true rfl) (by decide +kernel) ?_ rfl
      refine mz_zeq (off := 19) (tgt := 66) C (by decide +kernel) (by decide) (fun h5 => ?_) (fun h5 => ?_)
      · refine mz_go FLX2 KLX2 C [(66, .iconst 0)] (by decide +kernel) (pc' := 67) (L' := [(3, .int 1), (0, .ref 30), (1, .int t), (2, .int b)]) (st' := [.int 0]) rfl ?_
        exact mz_zret C E (by decide +kernel) (Or.inl rfl) (by unfold g_X2_canDouble; rw [if_pos h1, if_neg h4, if_pos h5]; try rfl) (rfl)
      · refine mz_go FLX2 KLX2 C [(50, .aload_n 0), (51, .getfield 24), (54, .iload_n 1), (55, .iload_n 2)] (by decide +kernel) (pc' := 56) (L' := [(3, .int 1), (0, .ref 30), (1, .int t), (2, .int b)]) (st' := [.int b, .int t, .ref 15]) rfl ?_
        refine mz_callV (As := [.int t, .int b]) (rest := []) C E' (f_X7_overlap l D cA ρ hI M t b) hy_X7_overlap wl_X2_285 rfl rfl rfl ⟨Nat.le_of_ble_eq_true rfl, Nat.le_of_ble_eq_true rfl⟩ ⟨Nat.le_refl _, Nat.le_refl _⟩ (Nat.le_of_ble_eq_true rfl) (by decide +kernel) ?_ rfl
        refine mz_zne (off := 7) (tgt := 66) C (by decide +kernel) (by decide) (fun h6 => ?_) (fun h6 => ?_)
        · refine mz_go FLX2 KLX2 C [(66, .iconst 0)] (by decide +kernel) (pc' := 67) (L' := [(3, .int 1), (0, .ref 30), (1, .int t), (2, .int b)]) (st' := [.int 0]) rfl ?_
          exact mz_zret C E (by decide +kernel) (Or.inl rfl) (by unfold g_X2_canDouble; rw [if_pos h1, if_neg h4, if_neg h5, if_neg h6]; try rfl) (rfl)
        · refine mz_go FLX2 KLX2 C [(62, .iconst 1), (63, .goto 4)] (by decide +kernel) (pc' := 67) (L' := [(3, .int 1), (0, .ref 30), (1, .int t), (2, .int b)]) (st' := [.int 1]) rfl ?_
          exact mz_zret C E (by decide +kernel) (Or.inr rfl) (by unfold g_X2_canDouble; rw [if_pos h1, if_neg h4, if_neg h5, if_pos h6]; try rfl) (rfl)
end
section
/-! from one evening to the whole object -/
def mz_it (k : Nat) : Nat := if k < 30 then k else k + 48
/-- the trial's evening, as if it stood in the actual one's place -/
def mz_tv (M : mz_Mem) : mz_Mem := fun k => M (mz_it k)
def mz_act (M N : mz_Mem) : mz_Mem := fun a => if a < 78 ∧ a ≠ 0 then N a else M a
def mz_tri (M N : mz_Mem) : mz_Mem := fun a => if 78 ≤ a ∧ a < 126 then N (a - 48) else M a
theorem mz_act_self (M : mz_Mem) : mz_act M M = M := by funext a; unfold mz_act; split <;> rfl
theorem mz_act_lo {M N : mz_Mem} {a : Nat} (h : a < 78) (h0 : a ≠ 0) : mz_act M N a = N a := if_pos ⟨h, h0⟩
theorem mz_act_hi {M N : mz_Mem} {a : Nat} (h : ¬ (a < 78 ∧ a ≠ 0)) : mz_act M N a = M a := if_neg h
theorem mz_tri_lo {M N : mz_Mem} {a : Nat} (h : a < 78) : mz_tri M N a = M a := if_neg (by omega)
theorem mz_hs_tri {M N : mz_Mem} : mz_hs M (mz_tri M N) := fun k hk => mz_tri_lo (by omega)
theorem mz_hs_act {M N : mz_Mem} (h : mz_hs M N) : mz_hs M (mz_act M N) := fun k hk => by
  by_cases h0 : k = 0
  · exact mz_act_hi (by omega)
  · exact (mz_act_lo (by omega) h0).trans (h k hk)
theorem mz_tv_tri {M N : mz_Mem} (h : mz_hs (mz_tv M) N) {k : Nat} (hk : k < 78) : mz_tv (mz_tri M N) k = N k := by
  unfold mz_tv mz_it mz_tri
  by_cases c : k < 30
  · rw [if_pos c, if_neg (by omega)]
    have := h k (Or.inl c)
    rw [this]
    unfold mz_tv mz_it
    rw [if_pos c]
  · rw [if_neg c, if_pos (by omega)]
    congr 1
def mz_subB (ι : Nat → Nat) (a b : List (Option mz_Sh)) : Bool := (List.range a.length).all fun k => match a[k]? with
  | some (some sh) => decide (b[ι k]? = some (some (mz_shm ι sh)))
  | _ => true
theorem mz_sub_of {ι : Nat → Nat} {a b : List (Option mz_Sh)} (h : mz_subB ι a b = true) : ∀ (k : Nat) (sh : mz_Sh), a[k]? = some (some sh) → b[ι k]? = some (some (mz_shm ι sh)) := by
  intro k sh hk
  have hl := (List.getElem?_eq_some_iff.mp hk).1
  have h1 := List.all_eq_true.mp h k (List.mem_range.mpr hl)
  rw [hk] at h1
  exact of_decide_eq_true h1
theorem mz_sub1 : mz_subB (fun k => k) mz_lay1 mz_lay2 = true := by decide +kernel
theorem mz_subT : mz_subB mz_it mz_lay1 mz_lay2 = true := by decide +kernel
theorem mz_lay1_lt {k : Nat} {sh : mz_Sh} (h : mz_lay1[k]? = some (some sh)) : k < 78 := (List.getElem?_eq_some_iff.mp h).1
theorem mz_I_of {ρ ι : Nat → Nat} {a b : List (Option mz_Sh)} (hI : mz_I ρ b) (hs : mz_subB ι a b = true) (hi : ∀ i j, i < a.length → j < a.length → ι i = ι j → i = j) : mz_I (fun k => ρ (ι k)) a :=
  fun i j x y hx hy e => hi i j (List.getElem?_eq_some_iff.mp hx).1 (List.getElem?_eq_some_iff.mp hy).1 (hI _ _ _ _ (mz_sub_of hs i x hx) (mz_sub_of hs j y hy) e)
theorem mz_I1 {ρ : Nat → Nat} (hI : mz_I ρ mz_lay2) : mz_I ρ mz_lay1 := mz_I_of (ι := fun k => k) hI mz_sub1 (fun _ _ _ _ h => h)
theorem mz_IT {ρ : Nat → Nat} (hI : mz_I ρ mz_lay2) : mz_I (fun k => ρ (mz_it k)) mz_lay1 := mz_I_of hI mz_subT (fun i j _ _ h => by
  unfold mz_it at h
  split at h <;> split at h <;> omega)
theorem mz_e_id (v : Value) : mz_e (fun k => k) v = v := by cases v <;> rfl
theorem mz_eid_map (As : List Value) : As.map (mz_e (fun k => k)) = As := by
  induction As with
  | nil => rfl
  | cons v t ih => rw [List.map_cons, mz_e_id, ih]
theorem mz_lay1_in {a : Nat} (h : a < 78) (h0 : a ≠ 0) : ∃ sh, mz_lay1[a]? = some (some sh) := by
  have hall : (List.range 78).all (fun k => decide (k = 0) || (match mz_lay1[k]? with | some (some _) => true | _ => false)) = true := by decide +kernel
  have h1 := List.all_eq_true.mp hall a (List.mem_range.mpr h)
  rcases (Bool.or_eq_true _ _).mp h1 with h2 | h2
  · exact absurd (of_decide_eq_true h2) h0
  · split at h2
    · rename_i sh hsh; exact ⟨sh, hsh⟩
    · cases h2
theorem mz_lay1_ne {a : Nat} {sh : mz_Sh} (h : mz_lay1[a]? = some (some sh)) : a ≠ 0 := fun e => by subst e; cases h
section MZU
variable {l : Launch} {D : va_G} {cA : ClassId} {ρ : Nat → Nat} {y : MethodName} {cc : ByteArray} {nL fr lo : Nat} {ret : Option FieldType} {As : List Value} {M N : mz_Mem} {r : Option Value}
theorem mz_liftA (hI : mz_I ρ mz_lay2) (F : mz_M l D vwCl cA ρ mz_lay1 y cc nL ret fr lo As M r N) : mz_M l D vwCl cA ρ mz_lay2 y cc nL ret fr lo As M r (mz_act M N) := by
  refine mz_lift (ι := fun k => k) F (mz_sub_of mz_sub1) hI (fun _ _ _ => rfl) (fun k sh hk => (mz_act_lo (mz_lay1_lt hk) (mz_lay1_ne hk)).symm) (fun a ha => ?_) (mz_eid_map As).symm (by cases r with | none => rfl | some v => simp [mz_e_id])
  by_cases h : a < 78 ∧ a ≠ 0
  · obtain ⟨sh, h0⟩ := mz_lay1_in h.1 h.2
    exact absurd rfl (ha a sh h0)
  · exact mz_act_hi h
theorem mz_liftAR (hI : mz_I ρ mz_lay2) (F : mz_M l D vwCl cA ρ mz_lay1 y cc nL ret fr lo As M r M) : mz_M l D vwCl cA ρ mz_lay2 y cc nL ret fr lo As M r M := by
  have h := mz_liftA hI F
  rw [mz_act_self] at h
  exact h
theorem mz_liftT (hI : mz_I ρ mz_lay2) (F : mz_M l D vwCl cA (fun k => ρ (mz_it k)) mz_lay1 y cc nL ret fr lo As (mz_tv M) r N) (hN : mz_hs (mz_tv M) N) {As' : List Value} {r' : Option Value} (hA : As' = As.map (mz_e mz_it)) (hr : r' = r.map (mz_e mz_it)) : mz_M l D vwCl cA ρ mz_lay2 y cc nL ret fr lo As' M r' (mz_tri M N) := by
  refine mz_lift (ι := mz_it) F (mz_sub_of mz_subT) hI (fun _ _ _ => rfl) (fun k sh hk => ?_) (fun a ha => ?_) hA hr
  · exact (mz_tv_tri hN (mz_lay1_lt hk)).symm
  · unfold mz_tri
    by_cases h : 78 ≤ a ∧ a < 126
    · obtain ⟨sh, h0⟩ := mz_lay1_in (a := a - 48) (by omega) (by omega)
      refine absurd ?_ (ha (a - 48) sh h0)
      unfold mz_it
      rw [if_neg (by omega)]
      omega
    · rw [if_neg h]
theorem mz_liftTR (hI : mz_I ρ mz_lay2) (F : mz_M l D vwCl cA (fun k => ρ (mz_it k)) mz_lay1 y cc nL ret fr lo As (mz_tv M) r (mz_tv M)) {As' : List Value} {r' : Option Value} (hA : As' = As.map (mz_e mz_it)) (hr : r' = r.map (mz_e mz_it)) : mz_M l D vwCl cA ρ mz_lay2 y cc nL ret fr lo As' M r' M := by
  have h := mz_liftT hI F mz_hs_rf hA hr
  have e : mz_tri M (mz_tv M) = M := by
    funext a
    unfold mz_tri mz_tv mz_it
    by_cases c : 78 ≤ a ∧ a < 126
    · rw [if_pos c, if_neg (by omega)]
      congr 1
      omega
    · rw [if_neg c]
  rw [e] at h
  exact h
end MZU
theorem mz_ltle {c d i : Int32} (h : c.toInt + 1 = d.toInt) : c < i ↔ d ≤ i := by
  rw [Int32.lt_iff_toInt_lt, Int32.le_iff_toInt_le]
  omega
theorem mz_lt0 {i n : Int32} (h : 0 ≤ i) (g : ¬ n ≤ i) : 0 < n := by
  rw [Int32.lt_iff_toInt_lt]
  rw [Int32.le_iff_toInt_le] at h g
  omega
theorem mz_lec {c d i : Int32} (h : c.toInt + 1 = d.toInt) (g : ¬ d ≤ i) : i ≤ c := Int32.not_lt.mp fun z => g ((mz_ltle h).mp z)
end
section
def g_X3_copyFrom (M : mz_Mem) : mz_Mem := (mz_s M 123 (M 75))
theorem g_X3_copyFrom_hs (M : mz_Mem) : mz_hs M (g_X3_copyFrom M) := by
  unfold g_X3_copyFrom
  exact mz_hs_s (by decide)

set_option maxHeartbeats 4000000 in
theorem f_X3_copyFrom (l : Launch) (D : va_G) (cA : ClassId) (ρ : Nat → Nat) (hI : mz_I ρ mz_lay2) (M : mz_Mem) : mz_M l D vwCl cA ρ mz_lay2 yX3_copyFrom cX3_copyFrom 2 none 2 51 [.ref 121, .ref 73] M none (g_X3_copyFrom M) := by
  refine mz_in0 (by decide +kernel) (Nat.le_of_ble_eq_true rfl) (fun Γ C E => ?_)
  have E' := (⟨_, _, _, E⟩ : ∃ Qc mc ms, mz_E Γ Qc mc ms (mz_A ρ mz_lay2))
  refine mz_go FLX3 KLX3 C [(0, .aload_n 0), (1, .getfield 20), (4, .aload_n 1), (5, .getfield 20)] (by decide +kernel) (pc' := 8) (L' := [(0, .ref 121), (1, .ref 73)]) (st' := [.ref 74, .ref 122]) rfl ?_
  refine mz_callV (As := [.ref 74]) (rest := []) C E' (f_Row_copyFrom l D cA ρ hI (r := 122) (a := 123) (r2 := 74) (a2 := 75) (n := 144) rfl rfl rfl rfl (by decide) (by decide) (by decide) M) hy_X6_copyFrom wl_X3_35 rfl rfl rfl ⟨Nat.le_of_ble_eq_true rfl, Nat.le_of_ble_eq_true rfl⟩ ⟨Nat.le_refl _, Nat.le_refl _⟩ (Nat.le_of_ble_eq_true rfl) (by decide +kernel) ?_ rfl
  exact mz_vret C E (by decide +kernel) (rfl)
def g_X1_copyFrom (M : mz_Mem) : mz_Mem := (mz_s (mz_s (mz_s M 83 (M 35)) 85 ((mz_s M 83 (M 35)) 37)) 87 ((mz_s (mz_s M 83 (M 35)) 85 ((mz_s M 83 (M 35)) 37)) 39))
theorem g_X1_copyFrom_hs (M : mz_Mem) : mz_hs M (g_X1_copyFrom M) := by
  unfold g_X1_copyFrom
  exact ((mz_hs_s (by decide)).trans (mz_hs_s (by decide))).trans (mz_hs_s (by decide))

set_option maxHeartbeats 4000000 in
theorem f_X1_copyFrom (l : Launch) (D : va_G) (cA : ClassId) (ρ : Nat → Nat) (hI : mz_I ρ mz_lay2) (M : mz_Mem) : mz_M l D vwCl cA ρ mz_lay2 yX1_copyFrom cX1_copyFrom 2 none 2 51 [.ref 81, .ref 33] M none (g_X1_copyFrom M) := by
  refine mz_in0 (by decide +kernel) (Nat.le_of_ble_eq_true rfl) (fun Γ C E => ?_)
  have E' := (⟨_, _, _, E⟩ : ∃ Qc mc ms, mz_E Γ Qc mc ms (mz_A ρ mz_lay2))
  refine mz_go FLX1 KLX1 C [(0, .aload_n 0), (1, .getfield 14), (4, .aload_n 1), (5, .getfield 14)] (by decide +kernel) (pc' := 8) (L' := [(0, .ref 81), (1, .ref 33)]) (st' := [.ref 34, .ref 82]) rfl ?_
  refine mz_callV (As := [.ref 34]) (rest := []) C E' (f_Row_copyFrom l D cA ρ hI (r := 82) (a := 83) (r2 := 34) (a2 := 35) (n := 5) rfl rfl rfl rfl (by decide) (by decide) (by decide) M) hy_X6_copyFrom wl_X1_30 rfl rfl rfl ⟨Nat.le_of_ble_eq_true rfl, Nat.le_of_ble_eq_true rfl⟩ ⟨Nat.le_refl _, Nat.le_refl _⟩ (Nat.le_of_ble_eq_true rfl) (by decide +kernel) ?_ rfl
  refine mz_go FLX1 KLX1 C [(11, .aload_n 0), (12, .getfield 20), (15, .aload_n 1), (16, .getfield 20)] (by decide +kernel) (pc' := 19) (L' := [(0, .ref 81), (1, .ref 33)]) (st' := [.ref 36, .ref 84]) rfl ?_
  refine mz_callV (As := [.ref 36]) (rest := []) C E' (f_Row_copyFrom l D cA ρ hI (r := 84) (a := 85) (r2 := 36) (a2 := 37) (n := 5) rfl rfl rfl rfl (by decide) (by decide) (by decide) (mz_s M 83 (M 35))) hy_X6_copyFrom wl_X1_30 rfl rfl rfl ⟨Nat.le_of_ble_eq_true rfl, Nat.le_of_ble_eq_true rfl⟩ ⟨Nat.le_refl _, Nat.le_refl _⟩ (Nat.le_of_ble_eq_true rfl) (by decide +kernel) ?_ rfl
  refine mz_go FLX1 KLX1 C [(22, .aload_n 0), (23, .getfield 23), (26, .aload_n 1), (27, .getfield 23)] (by decide +kernel) (pc' := 30) (L' := [(0, .ref 81), (1, .ref 33)]) (st' := [.ref 38, .ref 86]) rfl ?_
  refine mz_callV (As := [.ref 38]) (rest := []) C E' (f_Row_copyFrom l D cA ρ hI (r := 86) (a := 87) (r2 := 38) (a2 := 39) (n := 5) rfl rfl rfl rfl (by decide) (by decide) (by decide) (mz_s (mz_s M 83 (M 35)) 85 ((mz_s M 83 (M 35)) 37))) hy_X6_copyFrom wl_X1_30 rfl rfl rfl ⟨Nat.le_of_ble_eq_true rfl, Nat.le_of_ble_eq_true rfl⟩ ⟨Nat.le_refl _, Nat.le_refl _⟩ (Nat.le_of_ble_eq_true rfl) (by decide +kernel) ?_ rfl
  exact mz_vret C E (by decide +kernel) (rfl)
def g_X8_copyFrom (M : mz_Mem) : mz_Mem := (mz_s (mz_s (mz_s (mz_s (mz_s (mz_s M 90 (M 42)) 92 ((mz_s M 90 (M 42)) 44)) 94 ((mz_s (mz_s M 90 (M 42)) 92 ((mz_s M 90 (M 42)) 44)) 46)) 96 ((mz_s (mz_s (mz_s M 90 (M 42)) 92 ((mz_s M 90 (M 42)) 44)) 94 ((mz_s (mz_s M 90 (M 42)) 92 ((mz_s M 90 (M 42)) 44)) 46)) 48)) 98 ((mz_s (mz_s (mz_s (mz_s M 90 (M 42)) 92 ((mz_s M 90 (M 42)) 44)) 94 ((mz_s (mz_s M 90 (M 42)) 92 ((mz_s M 90 (M 42)) 44)) 46)) 96 ((mz_s (mz_s (mz_s M 90 (M 42)) 92 ((mz_s M 90 (M 42)) 44)) 94 ((mz_s (mz_s M 90 (M 42)) 92 ((mz_s M 90 (M 42)) 44)) 46)) 48)) 50)) 88 (upd ((mz_s (mz_s (mz_s (mz_s (mz_s M 90 (M 42)) 92 ((mz_s M 90 (M 42)) 44)) 94 ((mz_s (mz_s M 90 (M 42)) 92 ((mz_s M 90 (M 42)) 44)) 46)) 96 ((mz_s (mz_s (mz_s M 90 (M 42)) 92 ((mz_s M 90 (M 42)) 44)) 94 ((mz_s (mz_s M 90 (M 42)) 92 ((mz_s M 90 (M 42)) 44)) 46)) 48)) 98 ((mz_s (mz_s (mz_s (mz_s M 90 (M 42)) 92 ((mz_s M 90 (M 42)) 44)) 94 ((mz_s (mz_s M 90 (M 42)) 92 ((mz_s M 90 (M 42)) 44)) 46)) 96 ((mz_s (mz_s (mz_s M 90 (M 42)) 92 ((mz_s M 90 (M 42)) 44)) 94 ((mz_s (mz_s M 90 (M 42)) 92 ((mz_s M 90 (M 42)) 44)) 46)) 48)) 50)) 88) 6 ((mz_s (mz_s (mz_s (mz_s (mz_s M 90 (M 42)) 92 ((mz_s M 90 (M 42)) 44)) 94 ((mz_s (mz_s M 90 (M 42)) 92 ((mz_s M 90 (M 42)) 44)) 46)) 96 ((mz_s (mz_s (mz_s M 90 (M 42)) 92 ((mz_s M 90 (M 42)) 44)) 94 ((mz_s (mz_s M 90 (M 42)) 92 ((mz_s M 90 (M 42)) 44)) 46)) 48)) 98 ((mz_s (mz_s (mz_s (mz_s M 90 (M 42)) 92 ((mz_s M 90 (M 42)) 44)) 94 ((mz_s (mz_s M 90 (M 42)) 92 ((mz_s M 90 (M 42)) 44)) 46)) 96 ((mz_s (mz_s (mz_s M 90 (M 42)) 92 ((mz_s M 90 (M 42)) 44)) 94 ((mz_s (mz_s M 90 (M 42)) 92 ((mz_s M 90 (M 42)) 44)) 46)) 48)) 50)) 40 6)))
theorem g_X8_copyFrom_hs (M : mz_Mem) : mz_hs M (g_X8_copyFrom M) := by
  unfold g_X8_copyFrom
  exact (((((mz_hs_s (by decide)).trans (mz_hs_s (by decide))).trans (mz_hs_s (by decide))).trans (mz_hs_s (by decide))).trans (mz_hs_s (by decide))).trans (mz_hs_s (by decide))

set_option maxHeartbeats 4000000 in
theorem f_X8_copyFrom (l : Launch) (D : va_G) (cA : ClassId) (ρ : Nat → Nat) (hI : mz_I ρ mz_lay2) (M : mz_Mem) : mz_M l D vwCl cA ρ mz_lay2 yX8_copyFrom cX8_copyFrom 2 none 2 51 [.ref 88, .ref 40] M none (g_X8_copyFrom M) := by
  refine mz_in0 (by decide +kernel) (Nat.le_of_ble_eq_true rfl) (fun Γ C E => ?_)
  have E' := (⟨_, _, _, E⟩ : ∃ Qc mc ms, mz_E Γ Qc mc ms (mz_A ρ mz_lay2))
  refine mz_go FLX8 KLX8 C [(0, .aload_n 0), (1, .getfield 14), (4, .aload_n 1), (5, .getfield 14)] (by decide +kernel) (pc' := 8) (L' := [(0, .ref 88), (1, .ref 40)]) (st' := [.ref 41, .ref 89]) rfl ?_
  refine mz_callV (As := [.ref 41]) (rest := []) C E' (f_Row_copyFrom l D cA ρ hI (r := 89) (a := 90) (r2 := 41) (a2 := 42) (n := 12) rfl rfl rfl rfl (by decide) (by decide) (by decide) M) hy_X6_copyFrom wl_X8_36 rfl rfl rfl ⟨Nat.le_of_ble_eq_true rfl, Nat.le_of_ble_eq_true rfl⟩ ⟨Nat.le_refl _, Nat.le_refl _⟩ (Nat.le_of_ble_eq_true rfl) (by decide +kernel) ?_ rfl
  refine mz_go FLX8 KLX8 C [(11, .aload_n 0), (12, .getfield 20), (15, .aload_n 1), (16, .getfield 20)] (by decide +kernel) (pc' := 19) (L' := [(0, .ref 88), (1, .ref 40)]) (st' := [.ref 43, .ref 91]) rfl ?_
  refine mz_callV (As := [.ref 43]) (rest := []) C E' (f_Row_copyFrom l D cA ρ hI (r := 91) (a := 92) (r2 := 43) (a2 := 44) (n := 12) rfl rfl rfl rfl (by decide) (by decide) (by decide) (mz_s M 90 (M 42))) hy_X6_copyFrom wl_X8_36 rfl rfl rfl ⟨Nat.le_of_ble_eq_true rfl, Nat.le_of_ble_eq_true rfl⟩ ⟨Nat.le_refl _, Nat.le_refl _⟩ (Nat.le_of_ble_eq_true rfl) (by decide +kernel) ?_ rfl
  refine mz_go FLX8 KLX8 C [(22, .aload_n 0), (23, .getfield 23), (26, .aload_n 1), (27, .getfield 23)] (by decide +kernel) (pc' := 30) (L' := [(0, .ref 88), (1, .ref 40)]) (st' := [.ref 45, .ref 93]) rfl ?_
  refine mz_callV (As := [.ref 45]) (rest := []) C E' (f_Row_copyFrom l D cA ρ hI (r := 93) (a := 94) (r2 := 45) (a2 := 46) (n := 12) rfl rfl rfl rfl (by decide) (by decide) (by decide) (mz_s (mz_s M 90 (M 42)) 92 ((mz_s M 90 (M 42)) 44))) hy_X6_copyFrom wl_X8_36 rfl rfl rfl ⟨Nat.le_of_ble_eq_true rfl, Nat.le_of_ble_eq_true rfl⟩ ⟨Nat.le_refl _, Nat.le_refl _⟩ (Nat.le_of_ble_eq_true rfl) (by decide +kernel) ?_ rfl
  refine mz_go FLX8 KLX8 C [(33, .aload_n 0), (34, .getfield 26), (37, .aload_n 1), (38, .getfield 26)] (by decide +kernel) (pc' := 41) (L' := [(0, .ref 88), (1, .ref 40)]) (st' := [.ref 47, .ref 95]) rfl ?_
  refine mz_callV (As := [.ref 47]) (rest := []) C E' (f_Row_copyFrom l D cA ρ hI (r := 95) (a := 96) (r2 := 47) (a2 := 48) (n := 12) rfl rfl rfl rfl (by decide) (by decide) (by decide) (mz_s (mz_s (mz_s M 90 (M 42)) 92 ((mz_s M 90 (M 42)) 44)) 94 ((mz_s (mz_s M 90 (M 42)) 92 ((mz_s M 90 (M 42)) 44)) 46))) hy_X6_copyFrom wl_X8_36 rfl rfl rfl ⟨Nat.le_of_ble_eq_true rfl, Nat.le_of_ble_eq_true rfl⟩ ⟨Nat.le_refl _, Nat.le_refl _⟩ (Nat.le_of_ble_eq_true rfl) (by decide +kernel) ?_ rfl
  refine mz_go FLX8 KLX8 C [(44, .aload_n 0), (45, .getfield 29), (48, .aload_n 1), (49, .getfield 29)] (by decide +kernel) (pc' := 52) (L' := [(0, .ref 88), (1, .ref 40)]) (st' := [.ref 49, .ref 97]) rfl ?_
  refine mz_callV (As := [.ref 49]) (rest := []) C E' (f_Row_copyFrom l D cA ρ hI (r := 97) (a := 98) (r2 := 49) (a2 := 50) (n := 12) rfl rfl rfl rfl (by decide) (by decide) (by decide) (mz_s (mz_s (mz_s (mz_s M 90 (M 42)) 92 ((mz_s M 90 (M 42)) 44)) 94 ((mz_s (mz_s M 90 (M 42)) 92 ((mz_s M 90 (M 42)) 44)) 46)) 96 ((mz_s (mz_s (mz_s M 90 (M 42)) 92 ((mz_s M 90 (M 42)) 44)) 94 ((mz_s (mz_s M 90 (M 42)) 92 ((mz_s M 90 (M 42)) 44)) 46)) 48))) hy_X6_copyFrom wl_X8_36 rfl rfl rfl ⟨Nat.le_of_ble_eq_true rfl, Nat.le_of_ble_eq_true rfl⟩ ⟨Nat.le_refl _, Nat.le_refl _⟩ (Nat.le_of_ble_eq_true rfl) (by decide +kernel) ?_ rfl
  refine mz_go FLX8 KLX8 C [(55, .aload_n 0), (56, .aload_n 1), (57, .getfield 40)] (by decide +kernel) (pc' := 60) (L' := [(0, .ref 88), (1, .ref 40)]) (st' := [.int ((mz_s (mz_s (mz_s (mz_s (mz_s M 90 (M 42)) 92 ((mz_s M 90 (M 42)) 44)) 94 ((mz_s (mz_s M 90 (M 42)) 92 ((mz_s M 90 (M 42)) 44)) 46)) 96 ((mz_s (mz_s (mz_s M 90 (M 42)) 92 ((mz_s M 90 (M 42)) 44)) 94 ((mz_s (mz_s M 90 (M 42)) 92 ((mz_s M 90 (M 42)) 44)) 46)) 48)) 98 ((mz_s (mz_s (mz_s (mz_s M 90 (M 42)) 92 ((mz_s M 90 (M 42)) 44)) 94 ((mz_s (mz_s M 90 (M 42)) 92 ((mz_s M 90 (M 42)) 44)) 46)) 96 ((mz_s (mz_s (mz_s M 90 (M 42)) 92 ((mz_s M 90 (M 42)) 44)) 94 ((mz_s (mz_s M 90 (M 42)) 92 ((mz_s M 90 (M 42)) 44)) 46)) 48)) 50)) 40 6), .ref 88]) rfl ?_
  refine mz_put (id := 88) (ci := 8) (j := 6) (T := TX8) (N := 7) C E' hI rfl rfl rfl (by decide) iu_X8 tyX8 tyX8_ok nmX8 wf_X8_40 rfl (by decide +kernel) (by decide +kernel) ?_
  exact mz_vret C E (by decide +kernel) (rfl)
def g_X5_copyFrom (M : mz_Mem) : mz_Mem := (mz_s (mz_s (mz_s (mz_s M 101 (M 53)) 103 ((mz_s M 101 (M 53)) 55)) 105 ((mz_s (mz_s M 101 (M 53)) 103 ((mz_s M 101 (M 53)) 55)) 57)) 107 ((mz_s (mz_s (mz_s M 101 (M 53)) 103 ((mz_s M 101 (M 53)) 55)) 105 ((mz_s (mz_s M 101 (M 53)) 103 ((mz_s M 101 (M 53)) 55)) 57)) 59))
theorem g_X5_copyFrom_hs (M : mz_Mem) : mz_hs M (g_X5_copyFrom M) := by
  unfold g_X5_copyFrom
  exact (((mz_hs_s (by decide)).trans (mz_hs_s (by decide))).trans (mz_hs_s (by decide))).trans (mz_hs_s (by decide))

set_option maxHeartbeats 4000000 in
theorem f_X5_copyFrom (l : Launch) (D : va_G) (cA : ClassId) (ρ : Nat → Nat) (hI : mz_I ρ mz_lay2) (M : mz_Mem) : mz_M l D vwCl cA ρ mz_lay2 yX5_copyFrom cX5_copyFrom 2 none 2 51 [.ref 99, .ref 51] M none (g_X5_copyFrom M) := by
  refine mz_in0 (by decide +kernel) (Nat.le_of_ble_eq_true rfl) (fun Γ C E => ?_)
  have E' := (⟨_, _, _, E⟩ : ∃ Qc mc ms, mz_E Γ Qc mc ms (mz_A ρ mz_lay2))
  refine mz_go FLX5 KLX5 C [(0, .aload_n 0), (1, .getfield 14), (4, .aload_n 1), (5, .getfield 14)] (by decide +kernel) (pc' := 8) (L' := [(0, .ref 99), (1, .ref 51)]) (st' := [.ref 52, .ref 100]) rfl ?_
  refine mz_callV (As := [.ref 52]) (rest := []) C E' (f_Row_copyFrom l D cA ρ hI (r := 100) (a := 101) (r2 := 52) (a2 := 53) (n := 4) rfl rfl rfl rfl (by decide) (by decide) (by decide) M) hy_X6_copyFrom wl_X5_33 rfl rfl rfl ⟨Nat.le_of_ble_eq_true rfl, Nat.le_of_ble_eq_true rfl⟩ ⟨Nat.le_refl _, Nat.le_refl _⟩ (Nat.le_of_ble_eq_true rfl) (by decide +kernel) ?_ rfl
  refine mz_go FLX5 KLX5 C [(11, .aload_n 0), (12, .getfield 20), (15, .aload_n 1), (16, .getfield 20)] (by decide +kernel) (pc' := 19) (L' := [(0, .ref 99), (1, .ref 51)]) (st' := [.ref 54, .ref 102]) rfl ?_
  refine mz_callV (As := [.ref 54]) (rest := []) C E' (f_Row_copyFrom l D cA ρ hI (r := 102) (a := 103) (r2 := 54) (a2 := 55) (n := 4) rfl rfl rfl rfl (by decide) (by decide) (by decide) (mz_s M 101 (M 53))) hy_X6_copyFrom wl_X5_33 rfl rfl rfl ⟨Nat.le_of_ble_eq_true rfl, Nat.le_of_ble_eq_true rfl⟩ ⟨Nat.le_refl _, Nat.le_refl _⟩ (Nat.le_of_ble_eq_true rfl) (by decide +kernel) ?_ rfl
  refine mz_go FLX5 KLX5 C [(22, .aload_n 0), (23, .getfield 23), (26, .aload_n 1), (27, .getfield 23)] (by decide +kernel) (pc' := 30) (L' := [(0, .ref 99), (1, .ref 51)]) (st' := [.ref 56, .ref 104]) rfl ?_
  refine mz_callV (As := [.ref 56]) (rest := []) C E' (f_Row_copyFrom l D cA ρ hI (r := 104) (a := 105) (r2 := 56) (a2 := 57) (n := 4) rfl rfl rfl rfl (by decide) (by decide) (by decide) (mz_s (mz_s M 101 (M 53)) 103 ((mz_s M 101 (M 53)) 55))) hy_X6_copyFrom wl_X5_33 rfl rfl rfl ⟨Nat.le_of_ble_eq_true rfl, Nat.le_of_ble_eq_true rfl⟩ ⟨Nat.le_refl _, Nat.le_refl _⟩ (Nat.le_of_ble_eq_true rfl) (by decide +kernel) ?_ rfl
  refine mz_go FLX5 KLX5 C [(33, .aload_n 0), (34, .getfield 26), (37, .aload_n 1), (38, .getfield 26)] (by decide +kernel) (pc' := 41) (L' := [(0, .ref 99), (1, .ref 51)]) (st' := [.ref 58, .ref 106]) rfl ?_
  refine mz_callV (As := [.ref 58]) (rest := []) C E' (f_Row_copyFrom l D cA ρ hI (r := 106) (a := 107) (r2 := 58) (a2 := 59) (n := 4) rfl rfl rfl rfl (by decide) (by decide) (by decide) (mz_s (mz_s (mz_s M 101 (M 53)) 103 ((mz_s M 101 (M 53)) 55)) 105 ((mz_s (mz_s M 101 (M 53)) 103 ((mz_s M 101 (M 53)) 55)) 57))) hy_X6_copyFrom wl_X5_33 rfl rfl rfl ⟨Nat.le_of_ble_eq_true rfl, Nat.le_of_ble_eq_true rfl⟩ ⟨Nat.le_refl _, Nat.le_refl _⟩ (Nat.le_of_ble_eq_true rfl) (by decide +kernel) ?_ rfl
  exact mz_vret C E (by decide +kernel) (rfl)
def g_X0_copyFrom (M : mz_Mem) : mz_Mem := (mz_s (g_X3_copyFrom (mz_s (mz_s (mz_s (mz_s (mz_s (mz_s (mz_s M 108 (upd (M 108) 0 (M 60 0))) 110 ((mz_s M 108 (upd (M 108) 0 (M 60 0))) 62)) 112 ((mz_s (mz_s M 108 (upd (M 108) 0 (M 60 0))) 110 ((mz_s M 108 (upd (M 108) 0 (M 60 0))) 62)) 64)) 114 ((mz_s (mz_s (mz_s M 108 (upd (M 108) 0 (M 60 0))) 110 ((mz_s M 108 (upd (M 108) 0 (M 60 0))) 62)) 112 ((mz_s (mz_s M 108 (upd (M 108) 0 (M 60 0))) 110 ((mz_s M 108 (upd (M 108) 0 (M 60 0))) 62)) 64)) 66)) 116 ((mz_s (mz_s (mz_s (mz_s M 108 (upd (M 108) 0 (M 60 0))) 110 ((mz_s M 108 (upd (M 108) 0 (M 60 0))) 62)) 112 ((mz_s (mz_s M 108 (upd (M 108) 0 (M 60 0))) 110 ((mz_s M 108 (upd (M 108) 0 (M 60 0))) 62)) 64)) 114 ((mz_s (mz_s (mz_s M 108 (upd (M 108) 0 (M 60 0))) 110 ((mz_s M 108 (upd (M 108) 0 (M 60 0))) 62)) 112 ((mz_s (mz_s M 108 (upd (M 108) 0 (M 60 0))) 110 ((mz_s M 108 (upd (M 108) 0 (M 60 0))) 62)) 64)) 66)) 68)) 118 ((mz_s (mz_s (mz_s (mz_s (mz_s M 108 (upd (M 108) 0 (M 60 0))) 110 ((mz_s M 108 (upd (M 108) 0 (M 60 0))) 62)) 112 ((mz_s (mz_s M 108 (upd (M 108) 0 (M 60 0))) 110 ((mz_s M 108 (upd (M 108) 0 (M 60 0))) 62)) 64)) 114 ((mz_s (mz_s (mz_s M 108 (upd (M 108) 0 (M 60 0))) 110 ((mz_s M 108 (upd (M 108) 0 (M 60 0))) 62)) 112 ((mz_s (mz_s M 108 (upd (M 108) 0 (M 60 0))) 110 ((mz_s M 108 (upd (M 108) 0 (M 60 0))) 62)) 64)) 66)) 116 ((mz_s (mz_s (mz_s (mz_s M 108 (upd (M 108) 0 (M 60 0))) 110 ((mz_s M 108 (upd (M 108) 0 (M 60 0))) 62)) 112 ((mz_s (mz_s M 108 (upd (M 108) 0 (M 60 0))) 110 ((mz_s M 108 (upd (M 108) 0 (M 60 0))) 62)) 64)) 114 ((mz_s (mz_s (mz_s M 108 (upd (M 108) 0 (M 60 0))) 110 ((mz_s M 108 (upd (M 108) 0 (M 60 0))) 62)) 112 ((mz_s (mz_s M 108 (upd (M 108) 0 (M 60 0))) 110 ((mz_s M 108 (upd (M 108) 0 (M 60 0))) 62)) 64)) 66)) 68)) 70)) 120 ((mz_s (mz_s (mz_s (mz_s (mz_s (mz_s M 108 (upd (M 108) 0 (M 60 0))) 110 ((mz_s M 108 (upd (M 108) 0 (M 60 0))) 62)) 112 ((mz_s (mz_s M 108 (upd (M 108) 0 (M 60 0))) 110 ((mz_s M 108 (upd (M 108) 0 (M 60 0))) 62)) 64)) 114 ((mz_s (mz_s (mz_s M 108 (upd (M 108) 0 (M 60 0))) 110 ((mz_s M 108 (upd (M 108) 0 (M 60 0))) 62)) 112 ((mz_s (mz_s M 108 (upd (M 108) 0 (M 60 0))) 110 ((mz_s M 108 (upd (M 108) 0 (M 60 0))) 62)) 64)) 66)) 116 ((mz_s (mz_s (mz_s (mz_s M 108 (upd (M 108) 0 (M 60 0))) 110 ((mz_s M 108 (upd (M 108) 0 (M 60 0))) 62)) 112 ((mz_s (mz_s M 108 (upd (M 108) 0 (M 60 0))) 110 ((mz_s M 108 (upd (M 108) 0 (M 60 0))) 62)) 64)) 114 ((mz_s (mz_s (mz_s M 108 (upd (M 108) 0 (M 60 0))) 110 ((mz_s M 108 (upd (M 108) 0 (M 60 0))) 62)) 112 ((mz_s (mz_s M 108 (upd (M 108) 0 (M 60 0))) 110 ((mz_s M 108 (upd (M 108) 0 (M 60 0))) 62)) 64)) 66)) 68)) 118 ((mz_s (mz_s (mz_s (mz_s (mz_s M 108 (upd (M 108) 0 (M 60 0))) 110 ((mz_s M 108 (upd (M 108) 0 (M 60 0))) 62)) 112 ((mz_s (mz_s M 108 (upd (M 108) 0 (M 60 0))) 110 ((mz_s M 108 (upd (M 108) 0 (M 60 0))) 62)) 64)) 114 ((mz_s (mz_s (mz_s M 108 (upd (M 108) 0 (M 60 0))) 110 ((mz_s M 108 (upd (M 108) 0 (M 60 0))) 62)) 112 ((mz_s (mz_s M 108 (upd (M 108) 0 (M 60 0))) 110 ((mz_s M 108 (upd (M 108) 0 (M 60 0))) 62)) 64)) 66)) 116 ((mz_s (mz_s (mz_s (mz_s M 108 (upd (M 108) 0 (M 60 0))) 110 ((mz_s M 108 (upd (M 108) 0 (M 60 0))) 62)) 112 ((mz_s (mz_s M 108 (upd (M 108) 0 (M 60 0))) 110 ((mz_s M 108 (upd (M 108) 0 (M 60 0))) 62)) 64)) 114 ((mz_s (mz_s (mz_s M 108 (upd (M 108) 0 (M 60 0))) 110 ((mz_s M 108 (upd (M 108) 0 (M 60 0))) 62)) 112 ((mz_s (mz_s M 108 (upd (M 108) 0 (M 60 0))) 110 ((mz_s M 108 (upd (M 108) 0 (M 60 0))) 62)) 64)) 66)) 68)) 70)) 72))) 125 ((g_X3_copyFrom (mz_s (mz_s (mz_s (mz_s (mz_s (mz_s (mz_s M 108 (upd (M 108) 0 (M 60 0))) 110 ((mz_s M 108 (upd (M 108) 0 (M 60 0))) 62)) 112 ((mz_s (mz_s M 108 (upd (M 108) 0 (M 60 0))) 110 ((mz_s M 108 (upd (M 108) 0 (M 60 0))) 62)) 64)) 114 ((mz_s (mz_s (mz_s M 108 (upd (M 108) 0 (M 60 0))) 110 ((mz_s M 108 (upd (M 108) 0 (M 60 0))) 62)) 112 ((mz_s (mz_s M 108 (upd (M 108) 0 (M 60 0))) 110 ((mz_s M 108 (upd (M 108) 0 (M 60 0))) 62)) 64)) 66)) 116 ((mz_s (mz_s (mz_s (mz_s M 108 (upd (M 108) 0 (M 60 0))) 110 ((mz_s M 108 (upd (M 108) 0 (M 60 0))) 62)) 112 ((mz_s (mz_s M 108 (upd (M 108) 0 (M 60 0))) 110 ((mz_s M 108 (upd (M 108) 0 (M 60 0))) 62)) 64)) 114 ((mz_s (mz_s (mz_s M 108 (upd (M 108) 0 (M 60 0))) 110 ((mz_s M 108 (upd (M 108) 0 (M 60 0))) 62)) 112 ((mz_s (mz_s M 108 (upd (M 108) 0 (M 60 0))) 110 ((mz_s M 108 (upd (M 108) 0 (M 60 0))) 62)) 64)) 66)) 68)) 118 ((mz_s (mz_s (mz_s (mz_s (mz_s M 108 (upd (M 108) 0 (M 60 0))) 110 ((mz_s M 108 (upd (M 108) 0 (M 60 0))) 62)) 112 ((mz_s (mz_s M 108 (upd (M 108) 0 (M 60 0))) 110 ((mz_s M 108 (upd (M 108) 0 (M 60 0))) 62)) 64)) 114 ((mz_s (mz_s (mz_s M 108 (upd (M 108) 0 (M 60 0))) 110 ((mz_s M 108 (upd (M 108) 0 (M 60 0))) 62)) 112 ((mz_s (mz_s M 108 (upd (M 108) 0 (M 60 0))) 110 ((mz_s M 108 (upd (M 108) 0 (M 60 0))) 62)) 64)) 66)) 116 ((mz_s (mz_s (mz_s (mz_s M 108 (upd (M 108) 0 (M 60 0))) 110 ((mz_s M 108 (upd (M 108) 0 (M 60 0))) 62)) 112 ((mz_s (mz_s M 108 (upd (M 108) 0 (M 60 0))) 110 ((mz_s M 108 (upd (M 108) 0 (M 60 0))) 62)) 64)) 114 ((mz_s (mz_s (mz_s M 108 (upd (M 108) 0 (M 60 0))) 110 ((mz_s M 108 (upd (M 108) 0 (M 60 0))) 62)) 112 ((mz_s (mz_s M 108 (upd (M 108) 0 (M 60 0))) 110 ((mz_s M 108 (upd (M 108) 0 (M 60 0))) 62)) 64)) 66)) 68)) 70)) 120 ((mz_s (mz_s (mz_s (mz_s (mz_s (mz_s M 108 (upd (M 108) 0 (M 60 0))) 110 ((mz_s M 108 (upd (M 108) 0 (M 60 0))) 62)) 112 ((mz_s (mz_s M 108 (upd (M 108) 0 (M 60 0))) 110 ((mz_s M 108 (upd (M 108) 0 (M 60 0))) 62)) 64)) 114 ((mz_s (mz_s (mz_s M 108 (upd (M 108) 0 (M 60 0))) 110 ((mz_s M 108 (upd (M 108) 0 (M 60 0))) 62)) 112 ((mz_s (mz_s M 108 (upd (M 108) 0 (M 60 0))) 110 ((mz_s M 108 (upd (M 108) 0 (M 60 0))) 62)) 64)) 66)) 116 ((mz_s (mz_s (mz_s (mz_s M 108 (upd (M 108) 0 (M 60 0))) 110 ((mz_s M 108 (upd (M 108) 0 (M 60 0))) 62)) 112 ((mz_s (mz_s M 108 (upd (M 108) 0 (M 60 0))) 110 ((mz_s M 108 (upd (M 108) 0 (M 60 0))) 62)) 64)) 114 ((mz_s (mz_s (mz_s M 108 (upd (M 108) 0 (M 60 0))) 110 ((mz_s M 108 (upd (M 108) 0 (M 60 0))) 62)) 112 ((mz_s (mz_s M 108 (upd (M 108) 0 (M 60 0))) 110 ((mz_s M 108 (upd (M 108) 0 (M 60 0))) 62)) 64)) 66)) 68)) 118 ((mz_s (mz_s (mz_s (mz_s (mz_s M 108 (upd (M 108) 0 (M 60 0))) 110 ((mz_s M 108 (upd (M 108) 0 (M 60 0))) 62)) 112 ((mz_s (mz_s M 108 (upd (M 108) 0 (M 60 0))) 110 ((mz_s M 108 (upd (M 108) 0 (M 60 0))) 62)) 64)) 114 ((mz_s (mz_s (mz_s M 108 (upd (M 108) 0 (M 60 0))) 110 ((mz_s M 108 (upd (M 108) 0 (M 60 0))) 62)) 112 ((mz_s (mz_s M 108 (upd (M 108) 0 (M 60 0))) 110 ((mz_s M 108 (upd (M 108) 0 (M 60 0))) 62)) 64)) 66)) 116 ((mz_s (mz_s (mz_s (mz_s M 108 (upd (M 108) 0 (M 60 0))) 110 ((mz_s M 108 (upd (M 108) 0 (M 60 0))) 62)) 112 ((mz_s (mz_s M 108 (upd (M 108) 0 (M 60 0))) 110 ((mz_s M 108 (upd (M 108) 0 (M 60 0))) 62)) 64)) 114 ((mz_s (mz_s (mz_s M 108 (upd (M 108) 0 (M 60 0))) 110 ((mz_s M 108 (upd (M 108) 0 (M 60 0))) 62)) 112 ((mz_s (mz_s M 108 (upd (M 108) 0 (M 60 0))) 110 ((mz_s M 108 (upd (M 108) 0 (M 60 0))) 62)) 64)) 66)) 68)) 70)) 72))) 77))
theorem g_X0_copyFrom_hs (M : mz_Mem) : mz_hs M (g_X0_copyFrom M) := by
  unfold g_X0_copyFrom
  exact ((((((((mz_hs_s (by decide)).trans (mz_hs_s (by decide))).trans (mz_hs_s (by decide))).trans (mz_hs_s (by decide))).trans (mz_hs_s (by decide))).trans (mz_hs_s (by decide))).trans (mz_hs_s (by decide))).trans (g_X3_copyFrom_hs (mz_s (mz_s (mz_s (mz_s (mz_s (mz_s (mz_s M 108 (upd (M 108) 0 (M 60 0))) 110 ((mz_s M 108 (upd (M 108) 0 (M 60 0))) 62)) 112 ((mz_s (mz_s M 108 (upd (M 108) 0 (M 60 0))) 110 ((mz_s M 108 (upd (M 108) 0 (M 60 0))) 62)) 64)) 114 ((mz_s (mz_s (mz_s M 108 (upd (M 108) 0 (M 60 0))) 110 ((mz_s M 108 (upd (M 108) 0 (M 60 0))) 62)) 112 ((mz_s (mz_s M 108 (upd (M 108) 0 (M 60 0))) 110 ((mz_s M 108 (upd (M 108) 0 (M 60 0))) 62)) 64)) 66)) 116 ((mz_s (mz_s (mz_s (mz_s M 108 (upd (M 108) 0 (M 60 0))) 110 ((mz_s M 108 (upd (M 108) 0 (M 60 0))) 62)) 112 ((mz_s (mz_s M 108 (upd (M 108) 0 (M 60 0))) 110 ((mz_s M 108 (upd (M 108) 0 (M 60 0))) 62)) 64)) 114 ((mz_s (mz_s (mz_s M 108 (upd (M 108) 0 (M 60 0))) 110 ((mz_s M 108 (upd (M 108) 0 (M 60 0))) 62)) 112 ((mz_s (mz_s M 108 (upd (M 108) 0 (M 60 0))) 110 ((mz_s M 108 (upd (M 108) 0 (M 60 0))) 62)) 64)) 66)) 68)) 118 ((mz_s (mz_s (mz_s (mz_s (mz_s M 108 (upd (M 108) 0 (M 60 0))) 110 ((mz_s M 108 (upd (M 108) 0 (M 60 0))) 62)) 112 ((mz_s (mz_s M 108 (upd (M 108) 0 (M 60 0))) 110 ((mz_s M 108 (upd (M 108) 0 (M 60 0))) 62)) 64)) 114 ((mz_s (mz_s (mz_s M 108 (upd (M 108) 0 (M 60 0))) 110 ((mz_s M 108 (upd (M 108) 0 (M 60 0))) 62)) 112 ((mz_s (mz_s M 108 (upd (M 108) 0 (M 60 0))) 110 ((mz_s M 108 (upd (M 108) 0 (M 60 0))) 62)) 64)) 66)) 116 ((mz_s (mz_s (mz_s (mz_s M 108 (upd (M 108) 0 (M 60 0))) 110 ((mz_s M 108 (upd (M 108) 0 (M 60 0))) 62)) 112 ((mz_s (mz_s M 108 (upd (M 108) 0 (M 60 0))) 110 ((mz_s M 108 (upd (M 108) 0 (M 60 0))) 62)) 64)) 114 ((mz_s (mz_s (mz_s M 108 (upd (M 108) 0 (M 60 0))) 110 ((mz_s M 108 (upd (M 108) 0 (M 60 0))) 62)) 112 ((mz_s (mz_s M 108 (upd (M 108) 0 (M 60 0))) 110 ((mz_s M 108 (upd (M 108) 0 (M 60 0))) 62)) 64)) 66)) 68)) 70)) 120 ((mz_s (mz_s (mz_s (mz_s (mz_s (mz_s M 108 (upd (M 108) 0 (M 60 0))) 110 ((mz_s M 108 (upd (M 108) 0 (M 60 0))) 62)) 112 ((mz_s (mz_s M 108 (upd (M 108) 0 (M 60 0))) 110 ((mz_s M 108 (upd (M 108) 0 (M 60 0))) 62)) 64)) 114 ((mz_s (mz_s (mz_s M 108 (upd (M 108) 0 (M 60 0))) 110 ((mz_s M 108 (upd (M 108) 0 (M 60 0))) 62)) 112 ((mz_s (mz_s M 108 (upd (M 108) 0 (M 60 0))) 110 ((mz_s M 108 (upd (M 108) 0 (M 60 0))) 62)) 64)) 66)) 116 ((mz_s (mz_s (mz_s (mz_s M 108 (upd (M 108) 0 (M 60 0))) 110 ((mz_s M 108 (upd (M 108) 0 (M 60 0))) 62)) 112 ((mz_s (mz_s M 108 (upd (M 108) 0 (M 60 0))) 110 ((mz_s M 108 (upd (M 108) 0 (M 60 0))) 62)) 64)) 114 ((mz_s (mz_s (mz_s M 108 (upd (M 108) 0 (M 60 0))) 110 ((mz_s M 108 (upd (M 108) 0 (M 60 0))) 62)) 112 ((mz_s (mz_s M 108 (upd (M 108) 0 (M 60 0))) 110 ((mz_s M 108 (upd (M 108) 0 (M 60 0))) 62)) 64)) 66)) 68)) 118 ((mz_s (mz_s (mz_s (mz_s (mz_s M 108 (upd (M 108) 0 (M 60 0))) 110 ((mz_s M 108 (upd (M 108) 0 (M 60 0))) 62)) 112 ((mz_s (mz_s M 108 (upd (M 108) 0 (M 60 0))) 110 ((mz_s M 108 (upd (M 108) 0 (M 60 0))) 62)) 64)) 114 ((mz_s (mz_s (mz_s M 108 (upd (M 108) 0 (M 60 0))) 110 ((mz_s M 108 (upd (M 108) 0 (M 60 0))) 62)) 112 ((mz_s (mz_s M 108 (upd (M 108) 0 (M 60 0))) 110 ((mz_s M 108 (upd (M 108) 0 (M 60 0))) 62)) 64)) 66)) 116 ((mz_s (mz_s (mz_s (mz_s M 108 (upd (M 108) 0 (M 60 0))) 110 ((mz_s M 108 (upd (M 108) 0 (M 60 0))) 62)) 112 ((mz_s (mz_s M 108 (upd (M 108) 0 (M 60 0))) 110 ((mz_s M 108 (upd (M 108) 0 (M 60 0))) 62)) 64)) 114 ((mz_s (mz_s (mz_s M 108 (upd (M 108) 0 (M 60 0))) 110 ((mz_s M 108 (upd (M 108) 0 (M 60 0))) 62)) 112 ((mz_s (mz_s M 108 (upd (M 108) 0 (M 60 0))) 110 ((mz_s M 108 (upd (M 108) 0 (M 60 0))) 62)) 64)) 66)) 68)) 70)) 72)) )).trans (mz_hs_s (by decide))

set_option maxHeartbeats 4000000 in
theorem f_X0_copyFrom (l : Launch) (D : va_G) (cA : ClassId) (ρ : Nat → Nat) (hI : mz_I ρ mz_lay2) (M : mz_Mem) : mz_M l D vwCl cA ρ mz_lay2 yX0_copyFrom cX0_copyFrom 2 none 3 72 [.ref 108, .ref 60] M none (g_X0_copyFrom M) := by
  refine mz_in0 (by decide +kernel) (Nat.le_of_ble_eq_true rfl) (fun Γ C E => ?_)
  have E' := (⟨_, _, _, E⟩ : ∃ Qc mc ms, mz_E Γ Qc mc ms (mz_A ρ mz_lay2))
  refine mz_go FLX0 KLX0 C [(0, .aload_n 0), (1, .aload_n 1), (2, .getfield 47)] (by decide +kernel) (pc' := 5) (L' := [(0, .ref 108), (1, .ref 60)]) (st' := [.int (M 60 0), .ref 108]) rfl ?_
  refine mz_put (id := 108) (ci := 0) (j := 0) (T := TX0) (N := 9) C E' hI rfl rfl rfl (by decide) iu_X0 tyX0 tyX0_ok nmX0 wf_X0_47 rfl (by decide +kernel) (by decide +kernel) ?_
  refine mz_go FLX0 KLX0 C [(8, .aload_n 0), (9, .getfield 14), (12, .aload_n 1), (13, .getfield 14)] (by decide +kernel) (pc' := 16) (L' := [(0, .ref 108), (1, .ref 60)]) (st' := [.ref 61, .ref 109]) rfl ?_
  refine mz_callV (As := [.ref 61]) (rest := []) C E' (f_Row_copyFrom l D cA ρ hI (r := 109) (a := 110) (r2 := 61) (a2 := 62) (n := 12) rfl rfl rfl rfl (by decide) (by decide) (by decide) (mz_s M 108 (upd (M 108) 0 (M 60 0)))) hy_X6_copyFrom wl_X0_51 rfl rfl rfl ⟨Nat.le_of_ble_eq_true rfl, Nat.le_of_ble_eq_true rfl⟩ ⟨Nat.le_refl _, Nat.le_refl _⟩ (Nat.le_of_ble_eq_true rfl) (by decide +kernel) ?_ rfl
  refine mz_go FLX0 KLX0 C [(19, .aload_n 0), (20, .getfield 20), (23, .aload_n 1), (24, .getfield 20)] (by decide +kernel) (pc' := 27) (L' := [(0, .ref 108), (1, .ref 60)]) (st' := [.ref 63, .ref 111]) rfl ?_
  refine mz_callV (As := [.ref 63]) (rest := []) C E' (f_Row_copyFrom l D cA ρ hI (r := 111) (a := 112) (r2 := 63) (a2 := 64) (n := 12) rfl rfl rfl rfl (by decide) (by decide) (by decide) (mz_s (mz_s M 108 (upd (M 108) 0 (M 60 0))) 110 ((mz_s M 108 (upd (M 108) 0 (M 60 0))) 62))) hy_X6_copyFrom wl_X0_51 rfl rfl rfl ⟨Nat.le_of_ble_eq_true rfl, Nat.le_of_ble_eq_true rfl⟩ ⟨Nat.le_refl _, Nat.le_refl _⟩ (Nat.le_of_ble_eq_true rfl) (by decide +kernel) ?_ rfl
  refine mz_go FLX0 KLX0 C [(30, .aload_n 0), (31, .getfield 23), (34, .aload_n 1), (35, .getfield 23)] (by decide +kernel) (pc' := 38) (L' := [(0, .ref 108), (1, .ref 60)]) (st' := [.ref 65, .ref 113]) rfl ?_
  refine mz_callV (As := [.ref 65]) (rest := []) C E' (f_Row_copyFrom l D cA ρ hI (r := 113) (a := 114) (r2 := 65) (a2 := 66) (n := 12) rfl rfl rfl rfl (by decide) (by decide) (by decide) (mz_s (mz_s (mz_s M 108 (upd (M 108) 0 (M 60 0))) 110 ((mz_s M 108 (upd (M 108) 0 (M 60 0))) 62)) 112 ((mz_s (mz_s M 108 (upd (M 108) 0 (M 60 0))) 110 ((mz_s M 108 (upd (M 108) 0 (M 60 0))) 62)) 64))) hy_X6_copyFrom wl_X0_51 rfl rfl rfl ⟨Nat.le_of_ble_eq_true rfl, Nat.le_of_ble_eq_true rfl⟩ ⟨Nat.le_refl _, Nat.le_refl _⟩ (Nat.le_of_ble_eq_true rfl) (by decide +kernel) ?_ rfl
  refine mz_go FLX0 KLX0 C [(41, .aload_n 0), (42, .getfield 26), (45, .aload_n 1), (46, .getfield 26)] (by decide +kernel) (pc' := 49) (L' := [(0, .ref 108), (1, .ref 60)]) (st' := [.ref 67, .ref 115]) rfl ?_
  refine mz_callV (As := [.ref 67]) (rest := []) C E' (f_Row_copyFrom l D cA ρ hI (r := 115) (a := 116) (r2 := 67) (a2 := 68) (n := 12) rfl rfl rfl rfl (by decide) (by decide) (by decide) (mz_s (mz_s (mz_s (mz_s M 108 (upd (M 108) 0 (M 60 0))) 110 ((mz_s M 108 (upd (M 108) 0 (M 60 0))) 62)) 112 ((mz_s (mz_s M 108 (upd (M 108) 0 (M 60 0))) 110 ((mz_s M 108 (upd (M 108) 0 (M 60 0))) 62)) 64)) 114 ((mz_s (mz_s (mz_s M 108 (upd (M 108) 0 (M 60 0))) 110 ((mz_s M 108 (upd (M 108) 0 (M 60 0))) 62)) 112 ((mz_s (mz_s M 108 (upd (M 108) 0 (M 60 0))) 110 ((mz_s M 108 (upd (M 108) 0 (M 60 0))) 62)) 64)) 66))) hy_X6_copyFrom wl_X0_51 rfl rfl rfl ⟨Nat.le_of_ble_eq_true rfl, Nat.le_of_ble_eq_true rfl⟩ ⟨Nat.le_refl _, Nat.le_refl _⟩ (Nat.le_of_ble_eq_true rfl) (by decide +kernel) ?_ rfl
  refine mz_go FLX0 KLX0 C [(52, .aload_n 0), (53, .getfield 29), (56, .aload_n 1), (57, .getfield 29)] (by decide +kernel) (pc' := 60) (L' := [(0, .ref 108), (1, .ref 60)]) (st' := [.ref 69, .ref 117]) rfl ?_
  refine mz_callV (As := [.ref 69]) (rest := []) C E' (f_Row_copyFrom l D cA ρ hI (r := 117) (a := 118) (r2 := 69) (a2 := 70) (n := 12) rfl rfl rfl rfl (by decide) (by decide) (by decide) (mz_s (mz_s (mz_s (mz_s (mz_s M 108 (upd (M 108) 0 (M 60 0))) 110 ((mz_s M 108 (upd (M 108) 0 (M 60 0))) 62)) 112 ((mz_s (mz_s M 108 (upd (M 108) 0 (M 60 0))) 110 ((mz_s M 108 (upd (M 108) 0 (M 60 0))) 62)) 64)) 114 ((mz_s (mz_s (mz_s M 108 (upd (M 108) 0 (M 60 0))) 110 ((mz_s M 108 (upd (M 108) 0 (M 60 0))) 62)) 112 ((mz_s (mz_s M 108 (upd (M 108) 0 (M 60 0))) 110 ((mz_s M 108 (upd (M 108) 0 (M 60 0))) 62)) 64)) 66)) 116 ((mz_s (mz_s (mz_s (mz_s M 108 (upd (M 108) 0 (M 60 0))) 110 ((mz_s M 108 (upd (M 108) 0 (M 60 0))) 62)) 112 ((mz_s (mz_s M 108 (upd (M 108) 0 (M 60 0))) 110 ((mz_s M 108 (upd (M 108) 0 (M 60 0))) 62)) 64)) 114 ((mz_s (mz_s (mz_s M 108 (upd (M 108) 0 (M 60 0))) 110 ((mz_s M 108 (upd (M 108) 0 (M 60 0))) 62)) 112 ((mz_s (mz_s M 108 (upd (M 108) 0 (M 60 0))) 110 ((mz_s M 108 (upd (M 108) 0 (M 60 0))) 62)) 64)) 66)) 68))) hy_X6_copyFrom wl_X0_51 rfl rfl rfl ⟨Nat.le_of_ble_eq_true rfl, Nat.le_of_ble_eq_true rfl⟩ ⟨Nat.le_refl _, Nat.le_refl _⟩ (Nat.le_of_ble_eq_true rfl) (by decide +kernel) ?_ rfl
  refine mz_go FLX0 KLX0 C [(63, .aload_n 0), (64, .getfield 32), (67, .aload_n 1), (68, .getfield 32)] (by decide +kernel) (pc' := 71) (L' := [(0, .ref 108), (1, .ref 60)]) (st' := [.ref 71, .ref 119]) rfl ?_
  refine mz_callV (As := [.ref 71]) (rest := []) C E' (f_Row_copyFrom l D cA ρ hI (r := 119) (a := 120) (r2 := 71) (a2 := 72) (n := 12) rfl rfl rfl rfl (by decide) (by decide) (by decide) (mz_s (mz_s (mz_s (mz_s (mz_s (mz_s M 108 (upd (M 108) 0 (M 60 0))) 110 ((mz_s M 108 (upd (M 108) 0 (M 60 0))) 62)) 112 ((mz_s (mz_s M 108 (upd (M 108) 0 (M 60 0))) 110 ((mz_s M 108 (upd (M 108) 0 (M 60 0))) 62)) 64)) 114 ((mz_s (mz_s (mz_s M 108 (upd (M 108) 0 (M 60 0))) 110 ((mz_s M 108 (upd (M 108) 0 (M 60 0))) 62)) 112 ((mz_s (mz_s M 108 (upd (M 108) 0 (M 60 0))) 110 ((mz_s M 108 (upd (M 108) 0 (M 60 0))) 62)) 64)) 66)) 116 ((mz_s (mz_s (mz_s (mz_s M 108 (upd (M 108) 0 (M 60 0))) 110 ((mz_s M 108 (upd (M 108) 0 (M 60 0))) 62)) 112 ((mz_s (mz_s M 108 (upd (M 108) 0 (M 60 0))) 110 ((mz_s M 108 (upd (M 108) 0 (M 60 0))) 62)) 64)) 114 ((mz_s (mz_s (mz_s M 108 (upd (M 108) 0 (M 60 0))) 110 ((mz_s M 108 (upd (M 108) 0 (M 60 0))) 62)) 112 ((mz_s (mz_s M 108 (upd (M 108) 0 (M 60 0))) 110 ((mz_s M 108 (upd (M 108) 0 (M 60 0))) 62)) 64)) 66)) 68)) 118 ((mz_s (mz_s (mz_s (mz_s (mz_s M 108 (upd (M 108) 0 (M 60 0))) 110 ((mz_s M 108 (upd (M 108) 0 (M 60 0))) 62)) 112 ((mz_s (mz_s M 108 (upd (M 108) 0 (M 60 0))) 110 ((mz_s M 108 (upd (M 108) 0 (M 60 0))) 62)) 64)) 114 ((mz_s (mz_s (mz_s M 108 (upd (M 108) 0 (M 60 0))) 110 ((mz_s M 108 (upd (M 108) 0 (M 60 0))) 62)) 112 ((mz_s (mz_s M 108 (upd (M 108) 0 (M 60 0))) 110 ((mz_s M 108 (upd (M 108) 0 (M 60 0))) 62)) 64)) 66)) 116 ((mz_s (mz_s (mz_s (mz_s M 108 (upd (M 108) 0 (M 60 0))) 110 ((mz_s M 108 (upd (M 108) 0 (M 60 0))) 62)) 112 ((mz_s (mz_s M 108 (upd (M 108) 0 (M 60 0))) 110 ((mz_s M 108 (upd (M 108) 0 (M 60 0))) 62)) 64)) 114 ((mz_s (mz_s (mz_s M 108 (upd (M 108) 0 (M 60 0))) 110 ((mz_s M 108 (upd (M 108) 0 (M 60 0))) 62)) 112 ((mz_s (mz_s M 108 (upd (M 108) 0 (M 60 0))) 110 ((mz_s M 108 (upd (M 108) 0 (M 60 0))) 62)) 64)) 66)) 68)) 70))) hy_X6_copyFrom wl_X0_51 rfl rfl rfl ⟨Nat.le_of_ble_eq_true rfl, Nat.le_of_ble_eq_true rfl⟩ ⟨Nat.le_refl _, Nat.le_refl _⟩ (Nat.le_of_ble_eq_true rfl) (by decide +kernel) ?_ rfl
  refine mz_go FLX0 KLX0 C [(74, .aload_n 0), (75, .getfield 40), (78, .aload_n 1), (79, .getfield 40)] (by decide +kernel) (pc' := 82) (L' := [(0, .ref 108), (1, .ref 60)]) (st' := [.ref 73, .ref 121]) rfl ?_
  refine mz_callV (As := [.ref 73]) (rest := []) C E' (f_X3_copyFrom l D cA ρ hI (mz_s (mz_s (mz_s (mz_s (mz_s (mz_s (mz_s M 108 (upd (M 108) 0 (M 60 0))) 110 ((mz_s M 108 (upd (M 108) 0 (M 60 0))) 62)) 112 ((mz_s (mz_s M 108 (upd (M 108) 0 (M 60 0))) 110 ((mz_s M 108 (upd (M 108) 0 (M 60 0))) 62)) 64)) 114 ((mz_s (mz_s (mz_s M 108 (upd (M 108) 0 (M 60 0))) 110 ((mz_s M 108 (upd (M 108) 0 (M 60 0))) 62)) 112 ((mz_s (mz_s M 108 (upd (M 108) 0 (M 60 0))) 110 ((mz_s M 108 (upd (M 108) 0 (M 60 0))) 62)) 64)) 66)) 116 ((mz_s (mz_s (mz_s (mz_s M 108 (upd (M 108) 0 (M 60 0))) 110 ((mz_s M 108 (upd (M 108) 0 (M 60 0))) 62)) 112 ((mz_s (mz_s M 108 (upd (M 108) 0 (M 60 0))) 110 ((mz_s M 108 (upd (M 108) 0 (M 60 0))) 62)) 64)) 114 ((mz_s (mz_s (mz_s M 108 (upd (M 108) 0 (M 60 0))) 110 ((mz_s M 108 (upd (M 108) 0 (M 60 0))) 62)) 112 ((mz_s (mz_s M 108 (upd (M 108) 0 (M 60 0))) 110 ((mz_s M 108 (upd (M 108) 0 (M 60 0))) 62)) 64)) 66)) 68)) 118 ((mz_s (mz_s (mz_s (mz_s (mz_s M 108 (upd (M 108) 0 (M 60 0))) 110 ((mz_s M 108 (upd (M 108) 0 (M 60 0))) 62)) 112 ((mz_s (mz_s M 108 (upd (M 108) 0 (M 60 0))) 110 ((mz_s M 108 (upd (M 108) 0 (M 60 0))) 62)) 64)) 114 ((mz_s (mz_s (mz_s M 108 (upd (M 108) 0 (M 60 0))) 110 ((mz_s M 108 (upd (M 108) 0 (M 60 0))) 62)) 112 ((mz_s (mz_s M 108 (upd (M 108) 0 (M 60 0))) 110 ((mz_s M 108 (upd (M 108) 0 (M 60 0))) 62)) 64)) 66)) 116 ((mz_s (mz_s (mz_s (mz_s M 108 (upd (M 108) 0 (M 60 0))) 110 ((mz_s M 108 (upd (M 108) 0 (M 60 0))) 62)) 112 ((mz_s (mz_s M 108 (upd (M 108) 0 (M 60 0))) 110 ((mz_s M 108 (upd (M 108) 0 (M 60 0))) 62)) 64)) 114 ((mz_s (mz_s (mz_s M 108 (upd (M 108) 0 (M 60 0))) 110 ((mz_s M 108 (upd (M 108) 0 (M 60 0))) 62)) 112 ((mz_s (mz_s M 108 (upd (M 108) 0 (M 60 0))) 110 ((mz_s M 108 (upd (M 108) 0 (M 60 0))) 62)) 64)) 66)) 68)) 70)) 120 ((mz_s (mz_s (mz_s (mz_s (mz_s (mz_s M 108 (upd (M 108) 0 (M 60 0))) 110 ((mz_s M 108 (upd (M 108) 0 (M 60 0))) 62)) 112 ((mz_s (mz_s M 108 (upd (M 108) 0 (M 60 0))) 110 ((mz_s M 108 (upd (M 108) 0 (M 60 0))) 62)) 64)) 114 ((mz_s (mz_s (mz_s M 108 (upd (M 108) 0 (M 60 0))) 110 ((mz_s M 108 (upd (M 108) 0 (M 60 0))) 62)) 112 ((mz_s (mz_s M 108 (upd (M 108) 0 (M 60 0))) 110 ((mz_s M 108 (upd (M 108) 0 (M 60 0))) 62)) 64)) 66)) 116 ((mz_s (mz_s (mz_s (mz_s M 108 (upd (M 108) 0 (M 60 0))) 110 ((mz_s M 108 (upd (M 108) 0 (M 60 0))) 62)) 112 ((mz_s (mz_s M 108 (upd (M 108) 0 (M 60 0))) 110 ((mz_s M 108 (upd (M 108) 0 (M 60 0))) 62)) 64)) 114 ((mz_s (mz_s (mz_s M 108 (upd (M 108) 0 (M 60 0))) 110 ((mz_s M 108 (upd (M 108) 0 (M 60 0))) 62)) 112 ((mz_s (mz_s M 108 (upd (M 108) 0 (M 60 0))) 110 ((mz_s M 108 (upd (M 108) 0 (M 60 0))) 62)) 64)) 66)) 68)) 118 ((mz_s (mz_s (mz_s (mz_s (mz_s M 108 (upd (M 108) 0 (M 60 0))) 110 ((mz_s M 108 (upd (M 108) 0 (M 60 0))) 62)) 112 ((mz_s (mz_s M 108 (upd (M 108) 0 (M 60 0))) 110 ((mz_s M 108 (upd (M 108) 0 (M 60 0))) 62)) 64)) 114 ((mz_s (mz_s (mz_s M 108 (upd (M 108) 0 (M 60 0))) 110 ((mz_s M 108 (upd (M 108) 0 (M 60 0))) 62)) 112 ((mz_s (mz_s M 108 (upd (M 108) 0 (M 60 0))) 110 ((mz_s M 108 (upd (M 108) 0 (M 60 0))) 62)) 64)) 66)) 116 ((mz_s (mz_s (mz_s (mz_s M 108 (upd (M 108) 0 (M 60 0))) 110 ((mz_s M 108 (upd (M 108) 0 (M 60 0))) 62)) 112 ((mz_s (mz_s M 108 (upd (M 108) 0 (M 60 0))) 110 ((mz_s M 108 (upd (M 108) 0 (M 60 0))) 62)) 64)) 114 ((mz_s (mz_s (mz_s M 108 (upd (M 108) 0 (M 60 0))) 110 ((mz_s M 108 (upd (M 108) 0 (M 60 0))) 62)) 112 ((mz_s (mz_s M 108 (upd (M 108) 0 (M 60 0))) 110 ((mz_s M 108 (upd (M 108) 0 (M 60 0))) 62)) 64)) 66)) 68)) 70)) 72)) ) hy_X3_copyFrom wl_X0_55 rfl rfl rfl ⟨Nat.le_of_ble_eq_true rfl, Nat.le_of_ble_eq_true rfl⟩ ⟨Nat.le_refl _, Nat.le_refl _⟩ (Nat.le_of_ble_eq_true rfl) (by decide +kernel) ?_ rfl
  refine mz_go FLX0 KLX0 C [(85, .aload_n 0), (86, .getfield 44), (89, .aload_n 1), (90, .getfield 44)] (by decide +kernel) (pc' := 93) (L' := [(0, .ref 108), (1, .ref 60)]) (st' := [.ref 76, .ref 124]) rfl ?_
  refine mz_callV (As := [.ref 76]) (rest := []) C E' (f_Row_copyFrom l D cA ρ hI (r := 124) (a := 125) (r2 := 76) (a2 := 77) (n := 8) rfl rfl rfl rfl (by decide) (by decide) (by decide) (g_X3_copyFrom (mz_s (mz_s (mz_s (mz_s (mz_s (mz_s (mz_s M 108 (upd (M 108) 0 (M 60 0))) 110 ((mz_s M 108 (upd (M 108) 0 (M 60 0))) 62)) 112 ((mz_s (mz_s M 108 (upd (M 108) 0 (M 60 0))) 110 ((mz_s M 108 (upd (M 108) 0 (M 60 0))) 62)) 64)) 114 ((mz_s (mz_s (mz_s M 108 (upd (M 108) 0 (M 60 0))) 110 ((mz_s M 108 (upd (M 108) 0 (M 60 0))) 62)) 112 ((mz_s (mz_s M 108 (upd (M 108) 0 (M 60 0))) 110 ((mz_s M 108 (upd (M 108) 0 (M 60 0))) 62)) 64)) 66)) 116 ((mz_s (mz_s (mz_s (mz_s M 108 (upd (M 108) 0 (M 60 0))) 110 ((mz_s M 108 (upd (M 108) 0 (M 60 0))) 62)) 112 ((mz_s (mz_s M 108 (upd (M 108) 0 (M 60 0))) 110 ((mz_s M 108 (upd (M 108) 0 (M 60 0))) 62)) 64)) 114 ((mz_s (mz_s (mz_s M 108 (upd (M 108) 0 (M 60 0))) 110 ((mz_s M 108 (upd (M 108) 0 (M 60 0))) 62)) 112 ((mz_s (mz_s M 108 (upd (M 108) 0 (M 60 0))) 110 ((mz_s M 108 (upd (M 108) 0 (M 60 0))) 62)) 64)) 66)) 68)) 118 ((mz_s (mz_s (mz_s (mz_s (mz_s M 108 (upd (M 108) 0 (M 60 0))) 110 ((mz_s M 108 (upd (M 108) 0 (M 60 0))) 62)) 112 ((mz_s (mz_s M 108 (upd (M 108) 0 (M 60 0))) 110 ((mz_s M 108 (upd (M 108) 0 (M 60 0))) 62)) 64)) 114 ((mz_s (mz_s (mz_s M 108 (upd (M 108) 0 (M 60 0))) 110 ((mz_s M 108 (upd (M 108) 0 (M 60 0))) 62)) 112 ((mz_s (mz_s M 108 (upd (M 108) 0 (M 60 0))) 110 ((mz_s M 108 (upd (M 108) 0 (M 60 0))) 62)) 64)) 66)) 116 ((mz_s (mz_s (mz_s (mz_s M 108 (upd (M 108) 0 (M 60 0))) 110 ((mz_s M 108 (upd (M 108) 0 (M 60 0))) 62)) 112 ((mz_s (mz_s M 108 (upd (M 108) 0 (M 60 0))) 110 ((mz_s M 108 (upd (M 108) 0 (M 60 0))) 62)) 64)) 114 ((mz_s (mz_s (mz_s M 108 (upd (M 108) 0 (M 60 0))) 110 ((mz_s M 108 (upd (M 108) 0 (M 60 0))) 62)) 112 ((mz_s (mz_s M 108 (upd (M 108) 0 (M 60 0))) 110 ((mz_s M 108 (upd (M 108) 0 (M 60 0))) 62)) 64)) 66)) 68)) 70)) 120 ((mz_s (mz_s (mz_s (mz_s (mz_s (mz_s M 108 (upd (M 108) 0 (M 60 0))) 110 ((mz_s M 108 (upd (M 108) 0 (M 60 0))) 62)) 112 ((mz_s (mz_s M 108 (upd (M 108) 0 (M 60 0))) 110 ((mz_s M 108 (upd (M 108) 0 (M 60 0))) 62)) 64)) 114 ((mz_s (mz_s (mz_s M 108 (upd (M 108) 0 (M 60 0))) 110 ((mz_s M 108 (upd (M 108) 0 (M 60 0))) 62)) 112 ((mz_s (mz_s M 108 (upd (M 108) 0 (M 60 0))) 110 ((mz_s M 108 (upd (M 108) 0 (M 60 0))) 62)) 64)) 66)) 116 ((mz_s (mz_s (mz_s (mz_s M 108 (upd (M 108) 0 (M 60 0))) 110 ((mz_s M 108 (upd (M 108) 0 (M 60 0))) 62)) 112 ((mz_s (mz_s M 108 (upd (M 108) 0 (M 60 0))) 110 ((mz_s M 108 (upd (M 108) 0 (M 60 0))) 62)) 64)) 114 ((mz_s (mz_s (mz_s M 108 (upd (M 108) 0 (M 60 0))) 110 ((mz_s M 108 (upd (M 108) 0 (M 60 0))) 62)) 112 ((mz_s (mz_s M 108 (upd (M 108) 0 (M 60 0))) 110 ((mz_s M 108 (upd (M 108) 0 (M 60 0))) 62)) 64)) 66)) 68)) 118 ((mz_s (mz_s (mz_s (mz_s (mz_s M 108 (upd (M 108) 0 (M 60 0))) 110 ((mz_s M 108 (upd (M 108) 0 (M 60 0))) 62)) 112 ((mz_s (mz_s M 108 (upd (M 108) 0 (M 60 0))) 110 ((mz_s M 108 (upd (M 108) 0 (M 60 0))) 62)) 64)) 114 ((mz_s (mz_s (mz_s M 108 (upd (M 108) 0 (M 60 0))) 110 ((mz_s M 108 (upd (M 108) 0 (M 60 0))) 62)) 112 ((mz_s (mz_s M 108 (upd (M 108) 0 (M 60 0))) 110 ((mz_s M 108 (upd (M 108) 0 (M 60 0))) 62)) 64)) 66)) 116 ((mz_s (mz_s (mz_s (mz_s M 108 (upd (M 108) 0 (M 60 0))) 110 ((mz_s M 108 (upd (M 108) 0 (M 60 0))) 62)) 112 ((mz_s (mz_s M 108 (upd (M 108) 0 (M 60 0))) 110 ((mz_s M 108 (upd (M 108) 0 (M 60 0))) 62)) 64)) 114 ((mz_s (mz_s (mz_s M 108 (upd (M 108) 0 (M 60 0))) 110 ((mz_s M 108 (upd (M 108) 0 (M 60 0))) 62)) 112 ((mz_s (mz_s M 108 (upd (M 108) 0 (M 60 0))) 110 ((mz_s M 108 (upd (M 108) 0 (M 60 0))) 62)) 64)) 66)) 68)) 70)) 72)))) hy_X6_copyFrom wl_X0_51 rfl rfl rfl ⟨Nat.le_of_ble_eq_true rfl, Nat.le_of_ble_eq_true rfl⟩ ⟨Nat.le_refl _, Nat.le_refl _⟩ (Nat.le_of_ble_eq_true rfl) (by decide +kernel) ?_ rfl
  exact mz_vret C E (by decide +kernel) (rfl)
def g_X2_copyFrom (M : mz_Mem) : mz_Mem := (g_X0_copyFrom (g_X5_copyFrom (g_X8_copyFrom (g_X1_copyFrom (mz_s M 78 (upd (M 78) 7 (M 30 7)))))))
theorem g_X2_copyFrom_hs (M : mz_Mem) : mz_hs M (g_X2_copyFrom M) := by
  unfold g_X2_copyFrom
  exact ((((mz_hs_s (by decide)).trans (g_X1_copyFrom_hs (mz_s M 78 (upd (M 78) 7 (M 30 7))) )).trans (g_X8_copyFrom_hs (g_X1_copyFrom (mz_s M 78 (upd (M 78) 7 (M 30 7)))) )).trans (g_X5_copyFrom_hs (g_X8_copyFrom (g_X1_copyFrom (mz_s M 78 (upd (M 78) 7 (M 30 7))))) )).trans (g_X0_copyFrom_hs (g_X5_copyFrom (g_X8_copyFrom (g_X1_copyFrom (mz_s M 78 (upd (M 78) 7 (M 30 7)))))) )

set_option maxHeartbeats 4000000 in
theorem f_X2_copyFrom (l : Launch) (D : va_G) (cA : ClassId) (ρ : Nat → Nat) (hI : mz_I ρ mz_lay2) (M : mz_Mem) : mz_M l D vwCl cA ρ mz_lay2 yX2_copyFrom cX2_copyFrom 2 none 4 93 [.ref 78, .ref 30] M none (g_X2_copyFrom M) := by
  refine mz_in0 (by decide +kernel) (Nat.le_of_ble_eq_true rfl) (fun Γ C E => ?_)
  have E' := (⟨_, _, _, E⟩ : ∃ Qc mc ms, mz_E Γ Qc mc ms (mz_A ρ mz_lay2))
  refine mz_go FLX2 KLX2 C [(0, .aload_n 0), (1, .aload_n 1), (2, .getfield 58)] (by decide +kernel) (pc' := 5) (L' := [(0, .ref 78), (1, .ref 30)]) (st' := [.int (M 30 7), .ref 78]) rfl ?_
  refine mz_put (id := 78) (ci := 2) (j := 7) (T := TX2) (N := 8) C E' hI rfl rfl rfl (by decide) iu_X2 tyX2 tyX2_ok nmX2 wf_X2_58 rfl (by decide +kernel) (by decide +kernel) ?_
  refine mz_go FLX2 KLX2 C [(8, .aload_n 0), (9, .getfield 33), (12, .aload_n 1), (13, .getfield 33)] (by decide +kernel) (pc' := 16) (L' := [(0, .ref 78), (1, .ref 30)]) (st' := [.ref 33, .ref 81]) rfl ?_
  refine mz_callV (As := [.ref 33]) (rest := []) C E' (f_X1_copyFrom l D cA ρ hI (mz_s M 78 (upd (M 78) 7 (M 30 7))) ) hy_X1_copyFrom wl_X2_62 rfl rfl rfl ⟨Nat.le_of_ble_eq_true rfl, Nat.le_of_ble_eq_true rfl⟩ ⟨Nat.le_refl _, Nat.le_refl _⟩ (Nat.le_of_ble_eq_true rfl) (by decide +kernel) ?_ rfl
  refine mz_go FLX2 KLX2 C [(19, .aload_n 0), (20, .getfield 40), (23, .aload_n 1), (24, .getfield 40)] (by decide +kernel) (pc' := 27) (L' := [(0, .ref 78), (1, .ref 30)]) (st' := [.ref 40, .ref 88]) rfl ?_
  refine mz_callV (As := [.ref 40]) (rest := []) C E' (f_X8_copyFrom l D cA ρ hI (g_X1_copyFrom (mz_s M 78 (upd (M 78) 7 (M 30 7)))) ) hy_X8_copyFrom wl_X2_66 rfl rfl rfl ⟨Nat.le_of_ble_eq_true rfl, Nat.le_of_ble_eq_true rfl⟩ ⟨Nat.le_refl _, Nat.le_refl _⟩ (Nat.le_of_ble_eq_true rfl) (by decide +kernel) ?_ rfl
  refine mz_go FLX2 KLX2 C [(30, .aload_n 0), (31, .getfield 47), (34, .aload_n 1), (35, .getfield 47)] (by decide +kernel) (pc' := 38) (L' := [(0, .ref 78), (1, .ref 30)]) (st' := [.ref 51, .ref 99]) rfl ?_
  refine mz_callV (As := [.ref 51]) (rest := []) C E' (f_X5_copyFrom l D cA ρ hI (g_X8_copyFrom (g_X1_copyFrom (mz_s M 78 (upd (M 78) 7 (M 30 7))))) ) hy_X5_copyFrom wl_X2_69 rfl rfl rfl ⟨Nat.le_of_ble_eq_true rfl, Nat.le_of_ble_eq_true rfl⟩ ⟨Nat.le_refl _, Nat.le_refl _⟩ (Nat.le_of_ble_eq_true rfl) (by decide +kernel) ?_ rfl
  refine mz_go FLX2 KLX2 C [(41, .aload_n 0), (42, .getfield 54), (45, .aload_n 1), (46, .getfield 54)] (by decide +kernel) (pc' := 49) (L' := [(0, .ref 78), (1, .ref 30)]) (st' := [.ref 60, .ref 108]) rfl ?_
  refine mz_callV (As := [.ref 60]) (rest := []) C E' (f_X0_copyFrom l D cA ρ hI (g_X5_copyFrom (g_X8_copyFrom (g_X1_copyFrom (mz_s M 78 (upd (M 78) 7 (M 30 7)))))) ) hy_X0_copyFrom wl_X2_72 rfl rfl rfl ⟨Nat.le_of_ble_eq_true rfl, Nat.le_of_ble_eq_true rfl⟩ ⟨Nat.le_refl _, Nat.le_refl _⟩ (Nat.le_of_ble_eq_true rfl) (by decide +kernel) ?_ rfl
  exact mz_vret C E (by decide +kernel) (rfl)
end
section
def g_X9_checkRoom (M : mz_Mem) (r : Int32) : mz_Mem := M
set_option maxHeartbeats 4000000 in
theorem f_X9_checkRoom (l : Launch) (D : va_G) (cA : ClassId) (ρ : Nat → Nat) (hI : mz_I ρ mz_lay2) (M : mz_Mem) (r : Int32) (v1 : ¬ r < 0) (v2 : r < (M 1 0)) : mz_M l D vwCl cA ρ mz_lay2 yX9_checkRoom cX9_checkRoom 2 none 0 0 [.ref 0, .int r] M none M := by
  refine mz_in0 (by decide +kernel) (Nat.le_of_ble_eq_true rfl) (fun Γ C E => ?_)
  have E' := (⟨_, _, _, E⟩ : ∃ Qc mc ms, mz_E Γ Qc mc ms (mz_A ρ mz_lay2))
  refine mz_go FLX9 KLX9 C [(0, .iload_n 1)] (by decide +kernel) (pc' := 1) (L' := [(0, .ref 0), (1, .int r)]) (st' := [.int r]) rfl ?_
  refine mz_zlt (off := 14) (tgt := 15) C (by decide +kernel) (by decide) (fun h1 => absurd h1 v1) (fun _ => ?_)
  refine mz_go FLX9 KLX9 C [(4, .iload_n 1), (5, .aload_n 0), (6, .getfield 10), (9, .getfield 42)] (by decide +kernel) (pc' := 12) (L' := [(0, .ref 0), (1, .int r)]) (st' := [.int (M 1 0), .int r]) rfl ?_
  refine mz_ilt (off := 14) (tgt := 26) C (by decide +kernel) (by decide) (fun _ => ?_) (fun h2 => absurd v2 h2)
  exact mz_vret C E (by decide +kernel) (rfl)
def g_X9_checkTrack (M : mz_Mem) (r : Int32) : mz_Mem := M
set_option maxHeartbeats 4000000 in
theorem f_X9_checkTrack (l : Launch) (D : va_G) (cA : ClassId) (ρ : Nat → Nat) (hI : mz_I ρ mz_lay2) (M : mz_Mem) (r : Int32) (v1 : ¬ r < 0) (v2 : r < (M 15 0)) : mz_M l D vwCl cA ρ mz_lay2 yX9_checkTrack cX9_checkTrack 2 none 0 0 [.ref 0, .int r] M none M := by
  refine mz_in0 (by decide +kernel) (Nat.le_of_ble_eq_true rfl) (fun Γ C E => ?_)
  have E' := (⟨_, _, _, E⟩ : ∃ Qc mc ms, mz_E Γ Qc mc ms (mz_A ρ mz_lay2))
  refine mz_go FLX9 KLX9 C [(0, .iload_n 1)] (by decide +kernel) (pc' := 1) (L' := [(0, .ref 0), (1, .int r)]) (st' := [.int r]) rfl ?_
  refine mz_zlt (off := 14) (tgt := 15) C (by decide +kernel) (by decide) (fun h1 => absurd h1 v1) (fun _ => ?_)
  refine mz_go FLX9 KLX9 C [(4, .iload_n 1), (5, .aload_n 0), (6, .getfield 19), (9, .getfield 80)] (by decide +kernel) (pc' := 12) (L' := [(0, .ref 0), (1, .int r)]) (st' := [.int (M 15 0), .int r]) rfl ?_
  refine mz_ilt (off := 14) (tgt := 26) C (by decide +kernel) (by decide) (fun _ => ?_) (fun h2 => absurd v2 h2)
  exact mz_vret C E (by decide +kernel) (rfl)
def g_X9_checkProp (M : mz_Mem) (r : Int32) : mz_Mem := M
set_option maxHeartbeats 4000000 in
theorem f_X9_checkProp (l : Launch) (D : va_G) (cA : ClassId) (ρ : Nat → Nat) (hI : mz_I ρ mz_lay2) (M : mz_Mem) (r : Int32) (v1 : ¬ r < 0) (v2 : r < (M 15 1)) : mz_M l D vwCl cA ρ mz_lay2 yX9_checkProp cX9_checkProp 2 none 0 0 [.ref 0, .int r] M none M := by
  refine mz_in0 (by decide +kernel) (Nat.le_of_ble_eq_true rfl) (fun Γ C E => ?_)
  have E' := (⟨_, _, _, E⟩ : ∃ Qc mc ms, mz_E Γ Qc mc ms (mz_A ρ mz_lay2))
  refine mz_go FLX9 KLX9 C [(0, .iload_n 1)] (by decide +kernel) (pc' := 1) (L' := [(0, .ref 0), (1, .int r)]) (st' := [.int r]) rfl ?_
  refine mz_zlt (off := 14) (tgt := 15) C (by decide +kernel) (by decide) (fun h1 => absurd h1 v1) (fun _ => ?_)
  refine mz_go FLX9 KLX9 C [(4, .iload_n 1), (5, .aload_n 0), (6, .getfield 19), (9, .getfield 98)] (by decide +kernel) (pc' := 12) (L' := [(0, .ref 0), (1, .int r)]) (st' := [.int (M 15 1), .int r]) rfl ?_
  refine mz_ilt (off := 14) (tgt := 26) C (by decide +kernel) (by decide) (fun _ => ?_) (fun h2 => absurd v2 h2)
  exact mz_vret C E (by decide +kernel) (rfl)
def g_X9_checkScene (M : mz_Mem) (r : Int32) : mz_Mem := M
set_option maxHeartbeats 4000000 in
theorem f_X9_checkScene (l : Launch) (D : va_G) (cA : ClassId) (ρ : Nat → Nat) (hI : mz_I ρ mz_lay2) (M : mz_Mem) (r : Int32) (v1 : ¬ r < 0) (v2 : r < (M 15 2)) : mz_M l D vwCl cA ρ mz_lay2 yX9_checkScene cX9_checkScene 2 none 0 0 [.ref 0, .int r] M none M := by
  refine mz_in0 (by decide +kernel) (Nat.le_of_ble_eq_true rfl) (fun Γ C E => ?_)
  have E' := (⟨_, _, _, E⟩ : ∃ Qc mc ms, mz_E Γ Qc mc ms (mz_A ρ mz_lay2))
  refine mz_go FLX9 KLX9 C [(0, .iload_n 1)] (by decide +kernel) (pc' := 1) (L' := [(0, .ref 0), (1, .int r)]) (st' := [.int r]) rfl ?_
  refine mz_zlt (off := 14) (tgt := 15) C (by decide +kernel) (by decide) (fun h1 => absurd h1 v1) (fun _ => ?_)
  refine mz_go FLX9 KLX9 C [(4, .iload_n 1), (5, .aload_n 0), (6, .getfield 19), (9, .getfield 129)] (by decide +kernel) (pc' := 12) (L' := [(0, .ref 0), (1, .int r)]) (st' := [.int (M 15 2), .int r]) rfl ?_
  refine mz_ilt (off := 14) (tgt := 26) C (by decide +kernel) (by decide) (fun _ => ?_) (fun h2 => absurd v2 h2)
  exact mz_vret C E (by decide +kernel) (rfl)
def g_X9_checkGuest (M : mz_Mem) (r : Int32) : mz_Mem := M
set_option maxHeartbeats 4000000 in
theorem f_X9_checkGuest (l : Launch) (D : va_G) (cA : ClassId) (ρ : Nat → Nat) (hI : mz_I ρ mz_lay2) (M : mz_Mem) (r : Int32) (v1 : ¬ r < 0) (v2 : r < (M 60 0)) : mz_M l D vwCl cA ρ mz_lay2 yX9_checkGuest cX9_checkGuest 2 none 0 0 [.ref 0, .int r] M none M := by
  refine mz_in0 (by decide +kernel) (Nat.le_of_ble_eq_true rfl) (fun Γ C E => ?_)
  have E' := (⟨_, _, _, E⟩ : ∃ Qc mc ms, mz_E Γ Qc mc ms (mz_A ρ mz_lay2))
  refine mz_go FLX9 KLX9 C [(0, .iload_n 1)] (by decide +kernel) (pc' := 1) (L' := [(0, .ref 0), (1, .int r)]) (st' := [.int r]) rfl ?_
  refine mz_zlt (off := 17) (tgt := 18) C (by decide +kernel) (by decide) (fun h1 => absurd h1 v1) (fun _ => ?_)
  refine mz_go FLX9 KLX9 C [(4, .iload_n 1), (5, .aload_n 0), (6, .getfield 28), (9, .getfield 146), (12, .getfield 150)] (by decide +kernel) (pc' := 15) (L' := [(0, .ref 0), (1, .int r)]) (st' := [.int (M 60 0), .int r]) rfl ?_
  refine mz_ilt (off := 14) (tgt := 29) C (by decide +kernel) (by decide) (fun _ => ?_) (fun h2 => absurd v2 h2)
  exact mz_vret C E (by decide +kernel) (rfl)
def g_X9_checkWhat (M : mz_Mem) (w : Int32) (g : Int32) : mz_Mem := M
set_option maxHeartbeats 4000000 in
theorem f_X9_checkWhat (l : Launch) (D : va_G) (cA : ClassId) (ρ : Nat → Nat) (hI : mz_I ρ mz_lay2) (M : mz_Mem) (w : Int32) (g : Int32) (v1 : ¬ w < 0) (v2 : w ≤ g) : mz_M l D vwCl cA ρ mz_lay2 yX9_checkWhat cX9_checkWhat 2 none 0 0 [.int w, .int g] M none M := by
  refine mz_in0 (by decide +kernel) (Nat.le_of_ble_eq_true rfl) (fun Γ C E => ?_)
  have E' := (⟨_, _, _, E⟩ : ∃ Qc mc ms, mz_E Γ Qc mc ms (mz_A ρ mz_lay2))
  refine mz_go FLX9 KLX9 C [(0, .iload_n 0)] (by decide +kernel) (pc' := 1) (L' := [(0, .int w), (1, .int g)]) (st' := [.int w]) rfl ?_
  refine mz_zlt (off := 8) (tgt := 9) C (by decide +kernel) (by decide) (fun h1 => absurd h1 v1) (fun _ => ?_)
  refine mz_go FLX9 KLX9 C [(4, .iload_n 0), (5, .iload_n 1)] (by decide +kernel) (pc' := 6) (L' := [(0, .int w), (1, .int g)]) (st' := [.int g, .int w]) rfl ?_
  refine mz_ile (off := 14) (tgt := 20) C (by decide +kernel) (by decide) (fun _ => ?_) (fun h2 => absurd v2 h2)
  exact mz_vret C E (by decide +kernel) (rfl)
def g_X9_checkMinutes (M : mz_Mem) (w : Int32) (g : Int32) : mz_Mem := M
set_option maxHeartbeats 4000000 in
theorem f_X9_checkMinutes (l : Launch) (D : va_G) (cA : ClassId) (ρ : Nat → Nat) (hI : mz_I ρ mz_lay2) (M : mz_Mem) (w : Int32) (g : Int32) (v1 : ¬ w < 1) (v2 : w ≤ g) : mz_M l D vwCl cA ρ mz_lay2 yX9_checkMinutes cX9_checkMinutes 2 none 0 0 [.int w, .int g] M none M := by
  refine mz_in0 (by decide +kernel) (Nat.le_of_ble_eq_true rfl) (fun Γ C E => ?_)
  have E' := (⟨_, _, _, E⟩ : ∃ Qc mc ms, mz_E Γ Qc mc ms (mz_A ρ mz_lay2))
  refine mz_go FLX9 KLX9 C [(0, .iload_n 0), (1, .iconst 1)] (by decide +kernel) (pc' := 2) (L' := [(0, .int w), (1, .int g)]) (st' := [.int 1, .int w]) rfl ?_
  refine mz_ilt (off := 8) (tgt := 10) C (by decide +kernel) (by decide) (fun h1 => absurd h1 v1) (fun _ => ?_)
  refine mz_go FLX9 KLX9 C [(5, .iload_n 0), (6, .iload_n 1)] (by decide +kernel) (pc' := 7) (L' := [(0, .int w), (1, .int g)]) (st' := [.int g, .int w]) rfl ?_
  refine mz_ile (off := 14) (tgt := 21) C (by decide +kernel) (by decide) (fun _ => ?_) (fun h2 => absurd v2 h2)
  exact mz_vret C E (by decide +kernel) (rfl)
def g_X9_checkTime (M : mz_Mem) (s : Int32) (d : Int32) : mz_Mem := M
set_option maxHeartbeats 4000000 in
theorem f_X9_checkTime (l : Launch) (D : va_G) (cA : ClassId) (ρ : Nat → Nat) (hI : mz_I ρ mz_lay2) (M : mz_Mem) (s : Int32) (d : Int32) (v1 : ¬ s < 0) (v2 : ¬ 18 < s) (v3 : ¬ d < 1) (v4 : ¬ 8 < d) (v5 : (s + d) ≤ 20) : mz_M l D vwCl cA ρ mz_lay2 yX9_checkTime cX9_checkTime 2 none 0 0 [.int s, .int d] M none M := by
  refine mz_in0 (by decide +kernel) (Nat.le_of_ble_eq_true rfl) (fun Γ C E => ?_)
  have E' := (⟨_, _, _, E⟩ : ∃ Qc mc ms, mz_E Γ Qc mc ms (mz_A ρ mz_lay2))
  refine mz_go FLX9 KLX9 C [(0, .iload_n 0)] (by decide +kernel) (pc' := 1) (L' := [(0, .int s), (1, .int d)]) (st' := [.int s]) rfl ?_
  refine mz_zlt (off := 28) (tgt := 29) C (by decide +kernel) (by decide) (fun h1 => absurd h1 v1) (fun _ => ?_)
  refine mz_go FLX9 KLX9 C [(4, .iload_n 0), (5, .bipush 18)] (by decide +kernel) (pc' := 7) (L' := [(0, .int s), (1, .int d)]) (st' := [.int 18, .int s]) rfl ?_
  refine mz_igt (off := 22) (tgt := 29) C (by decide +kernel) (by decide) (fun h2 => absurd h2 v2) (fun _ => ?_)
  refine mz_go FLX9 KLX9 C [(10, .iload_n 1), (11, .iconst 1)] (by decide +kernel) (pc' := 12) (L' := [(0, .int s), (1, .int d)]) (st' := [.int 1, .int d]) rfl ?_
  refine mz_ilt (off := 17) (tgt := 29) C (by decide +kernel) (by decide) (fun h3 => absurd h3 v3) (fun _ => ?_)
  refine mz_go FLX9 KLX9 C [(15, .iload_n 1), (16, .bipush 8)] (by decide +kernel) (pc' := 18) (L' := [(0, .int s), (1, .int d)]) (st' := [.int 8, .int d]) rfl ?_
  refine mz_igt (off := 11) (tgt := 29) C (by decide +kernel) (by decide) (fun h4 => absurd h4 v4) (fun _ => ?_)
  refine mz_go FLX9 KLX9 C [(21, .iload_n 0), (22, .iload_n 1), (23, .iadd), (24, .bipush 20)] (by decide +kernel) (pc' := 26) (L' := [(0, .int s), (1, .int d)]) (st' := [.int 20, .int (s + d)]) rfl ?_
  refine mz_ile (off := 14) (tgt := 40) C (by decide +kernel) (by decide) (fun _ => ?_) (fun h5 => absurd v5 h5)
  exact mz_vret C E (by decide +kernel) (rfl)
def g_X9_standsForHabit (M : mz_Mem) (a : Int32) : Int32 := if a = 0 then 1 else if a = 2 then 1 else if a = 3 then 1 else if a < 10 then 0 else 1
set_option maxHeartbeats 4000000 in
theorem f_X9_standsForHabit (l : Launch) (D : va_G) (cA : ClassId) (ρ : Nat → Nat) (hI : mz_I ρ mz_lay2) (M : mz_Mem) (a : Int32) : mz_M l D vwCl cA ρ mz_lay2 yX9_standsForHabit cX9_standsForHabit 1 (some .boolean) 0 0 [.int a] M (some (.int (g_X9_standsForHabit M a))) M := by
  refine mz_in0 (by decide +kernel) (Nat.le_of_ble_eq_true rfl) (fun Γ C E => ?_)
  have E' := (⟨_, _, _, E⟩ : ∃ Qc mc ms, mz_E Γ Qc mc ms (mz_A ρ mz_lay2))
  refine mz_go FLX9 KLX9 C [(0, .iload_n 0)] (by decide +kernel) (pc' := 1) (L' := [(0, .int a)]) (st' := [.int a]) rfl ?_
  refine mz_zeq (off := 19) (tgt := 20) C (by decide +kernel) (by decide) (fun h1 => ?_) (fun h1 => ?_)
  · refine mz_go FLX9 KLX9 C [(20, .iconst 1), (21, .goto 4)] (by decide +kernel) (pc' := 25) (L' := [(0, .int a)]) (st' := [.int 1]) rfl ?_
    exact mz_zret C E (by decide +kernel) (Or.inr rfl) (by unfold g_X9_standsForHabit; rw [if_pos h1]; try rfl) (rfl)
  · refine mz_go FLX9 KLX9 C [(4, .iload_n 0), (5, .iconst 2)] (by decide +kernel) (pc' := 6) (L' := [(0, .int a)]) (st' := [.int 2, .int a]) rfl ?_
    refine mz_ieq (off := 14) (tgt := 20) C (by decide +kernel) (by decide) (fun h2 => ?_) (fun h2 => ?_)
    · refine mz_go FLX9 KLX9 C [(20, .iconst 1), (21, .goto 4)] (by decide +kernel) (pc' := 25) (L' := [(0, .int a)]) (st' := [.int 1]) rfl ?_
      exact mz_zret C E (by decide +kernel) (Or.inr rfl) (by unfold g_X9_standsForHabit; rw [if_neg h1, if_pos h2]; try rfl) (rfl)
    · refine mz_go FLX9 KLX9 C [(9, .iload_n 0), (10, .iconst 3)] (by decide +kernel) (pc' := 11) (L' := [(0, .int a)]) (st' := [.int 3, .int a]) rfl ?_
      refine mz_ieq (off := 9) (tgt := 20) C (by decide +kernel) (by decide) (fun h3 => ?_) (fun h3 => ?_)
      · refine mz_go FLX9 KLX9 C [(20, .iconst 1), (21, .goto 4)] (by decide +kernel) (pc' := 25) (L' := [(0, .int a)]) (st' := [.int 1]) rfl ?_
        exact mz_zret C E (by decide +kernel) (Or.inr rfl) (by unfold g_X9_standsForHabit; rw [if_neg h1, if_neg h2, if_pos h3]; try rfl) (rfl)
      · refine mz_go FLX9 KLX9 C [(14, .iload_n 0), (15, .bipush 10)] (by decide +kernel) (pc' := 17) (L' := [(0, .int a)]) (st' := [.int 10, .int a]) rfl ?_
        refine mz_ilt (off := 7) (tgt := 24) C (by decide +kernel) (by decide) (fun h4 => ?_) (fun h4 => ?_)
        · refine mz_go FLX9 KLX9 C [(24, .iconst 0)] (by decide +kernel) (pc' := 25) (L' := [(0, .int a)]) (st' := [.int 0]) rfl ?_
          exact mz_zret C E (by decide +kernel) (Or.inl rfl) (by unfold g_X9_standsForHabit; rw [if_neg h1, if_neg h2, if_neg h3, if_pos h4]; try rfl) (rfl)
        · refine mz_go FLX9 KLX9 C [(20, .iconst 1), (21, .goto 4)] (by decide +kernel) (pc' := 25) (L' := [(0, .int a)]) (st' := [.int 1]) rfl ?_
          exact mz_zret C E (by decide +kernel) (Or.inr rfl) (by unfold g_X9_standsForHabit; rw [if_neg h1, if_neg h2, if_neg h3, if_neg h4]; try rfl) (rfl)
def g_X9_habitBehind (M : mz_Mem) (a : Int32) : Int32 := if a < 10 then a else 1
set_option maxHeartbeats 4000000 in
theorem f_X9_habitBehind (l : Launch) (D : va_G) (cA : ClassId) (ρ : Nat → Nat) (hI : mz_I ρ mz_lay2) (M : mz_Mem) (a : Int32) : mz_M l D vwCl cA ρ mz_lay2 yX9_habitBehind cX9_habitBehind 1 (some .int) 0 0 [.int a] M (some (.int (g_X9_habitBehind M a))) M := by
  refine mz_in0 (by decide +kernel) (Nat.le_of_ble_eq_true rfl) (fun Γ C E => ?_)
  have E' := (⟨_, _, _, E⟩ : ∃ Qc mc ms, mz_E Γ Qc mc ms (mz_A ρ mz_lay2))
  refine mz_go FLX9 KLX9 C [(0, .iload_n 0), (1, .bipush 10)] (by decide +kernel) (pc' := 3) (L' := [(0, .int a)]) (st' := [.int 10, .int a]) rfl ?_
  refine mz_ilt (off := 7) (tgt := 10) C (by decide +kernel) (by decide) (fun h1 => ?_) (fun h1 => ?_)
  · refine mz_go FLX9 KLX9 C [(10, .iload_n 0)] (by decide +kernel) (pc' := 11) (L' := [(0, .int a)]) (st' := [.int a]) rfl ?_
    exact mz_iret C E (by decide +kernel) (by unfold g_X9_habitBehind; rw [if_pos h1]; try rfl) (rfl)
  · refine mz_go FLX9 KLX9 C [(6, .iconst 1), (7, .goto 4)] (by decide +kernel) (pc' := 11) (L' := [(0, .int a)]) (st' := [.int 1]) rfl ?_
    exact mz_iret C E (by decide +kernel) (by unfold g_X9_habitBehind; rw [if_neg h1]; try rfl) (rfl)
def g_X9_fold (M : mz_Mem) (d : Int64) (v : Int64) : Int64 := ((d * 31) + v)
set_option maxHeartbeats 4000000 in
theorem f_X9_fold (l : Launch) (D : va_G) (cA : ClassId) (ρ : Nat → Nat) (hI : mz_I ρ mz_lay2) (M : mz_Mem) (d : Int64) (v : Int64) : mz_M l D vwCl cA ρ mz_lay2 yX9_fold cX9_fold 4 (some .long) 0 0 [.long d, .long v] M (some (.long (g_X9_fold M d v))) M := by
  refine mz_in0 (by decide +kernel) (Nat.le_of_ble_eq_true rfl) (fun Γ C E => ?_)
  have E' := (⟨_, _, _, E⟩ : ∃ Qc mc ms, mz_E Γ Qc mc ms (mz_A ρ mz_lay2))
  refine mz_go FLX9 KLX9 C [(0, .lload_n 0), (1, .ldc2_w 398), (4, .lmul), (5, .lload_n 2), (6, .ladd)] (by decide +kernel) (pc' := 7) (L' := [(0, .long d), (2, .long v)]) (st' := [.long ((d * 31) + v)]) rfl ?_
  exact mz_lret C E (by decide +kernel) (rfl) (rfl)
end
section
def g_X9_ofRoom (M : mz_Mem) (r : Int32) (w : Int32) : Int32 := if w = 0 then (mz_rg 8 (M 3) r) else if w = 1 then (mz_rg 8 (M 77) r) else if w = 2 then (g_X1_setIn M r) else if w = 3 then (g_X8_runningIn M r) else (g_X5_lyingIn M r)
set_option maxHeartbeats 4000000 in
theorem f_X9_ofRoom (l : Launch) (D : va_G) (cA : ClassId) (ρ : Nat → Nat) (hI : mz_I ρ mz_lay2) (M : mz_Mem) (r : Int32) (w : Int32) (v1 : ¬ r < 0) (v2 : r < (M 1 0)) (v3 : ¬ w < 0) (v4 : w ≤ 4) : mz_M l D vwCl cA ρ mz_lay2 yX9_ofRoom cX9_ofRoom 3 (some .int) 2 44 [.ref 0, .int r, .int w] M (some (.int (g_X9_ofRoom M r w))) M := by
  refine mz_in0 (by decide +kernel) (Nat.le_of_ble_eq_true rfl) (fun Γ C E => ?_)
  have E' := (⟨_, _, _, E⟩ : ∃ Qc mc ms, mz_E Γ Qc mc ms (mz_A ρ mz_lay2))
  refine mz_go FLX9 KLX9 C [(0, .aload_n 0), (1, .iload_n 1)] (by decide +kernel) (pc' := 2) (L' := [(0, .ref 0), (1, .int r), (2, .int w)]) (st' := [.int r, .ref 0]) rfl ?_
  refine mz_callV (As := [.int r]) (rest := []) C E' (f_X9_checkRoom l D cA ρ hI M r v1 v2) hy_X9_checkRoom wl_X9_55 rfl rfl rfl ⟨Nat.le_of_ble_eq_true rfl, Nat.le_of_ble_eq_true rfl⟩ ⟨Nat.le_refl _, Nat.le_refl _⟩ (Nat.le_of_ble_eq_true rfl) (by decide +kernel) ?_ rfl
  refine mz_go FLX9 KLX9 C [(5, .iload_n 2), (6, .iconst 4)] (by decide +kernel) (pc' := 7) (L' := [(0, .ref 0), (1, .int r), (2, .int w)]) (st' := [.int 4, .int w]) rfl ?_
  refine mz_callS (As := [.int w, .int 4]) (rest := []) C E' (f_X9_checkWhat l D cA ρ hI M w 4 v3 v4) hs_X9_checkWhat wl_X9_252 rfl ⟨Nat.le_of_ble_eq_true rfl, Nat.le_of_ble_eq_true rfl⟩ ⟨Nat.le_refl _, Nat.le_refl _⟩ (Nat.le_of_ble_eq_true rfl) (by decide +kernel) ?_ rfl
  refine mz_go FLX9 KLX9 C [(10, .iload_n 2)] (by decide +kernel) (pc' := 11) (L' := [(0, .ref 0), (1, .int r), (2, .int w)]) (st' := [.int w]) rfl ?_
  by_cases h1 : w = 0
  · refine mz_tin (dflt := 80) (lo := 0) (hi := 3) (offs := #[29, 41, 56, 68]) (len := 29) (q := 0) (v := 0) (off := 29) (tgt := 40) C (by decide +kernel) h1 (by decide) (by decide) rfl (by decide) ?_
    refine mz_go FLX9 KLX9 C [(40, .aload_n 0), (41, .getfield 10), (44, .getfield 255), (47, .iload_n 1)] (by decide +kernel) (pc' := 48) (L' := [(0, .ref 0), (1, .int r), (2, .int w)]) (st' := [.int r, .ref 2]) rfl ?_
    refine mz_callV (As := [.int r]) (rest := []) C E' (f_Row_get l D cA ρ hI (r := 2) (a := 3) (n := 8) rfl rfl (by decide) M r) hy_X6_get wl_X9_174 rfl rfl rfl ⟨Nat.le_of_ble_eq_true rfl, Nat.le_of_ble_eq_true rfl⟩ ⟨Nat.le_refl _, Nat.le_refl _⟩ (Nat.le_of_ble_eq_true rfl) (by decide +kernel) ?_ rfl
    exact mz_iret C E (by decide +kernel) (by unfold g_X9_ofRoom; rw [if_pos h1]; try rfl) (rfl)
  by_cases h2 : w = 1
  · refine mz_tin (dflt := 80) (lo := 0) (hi := 3) (offs := #[29, 41, 56, 68]) (len := 29) (q := 1) (v := 1) (off := 41) (tgt := 52) C (by decide +kernel) h2 (by decide) (by decide) rfl (by decide) ?_
    refine mz_go FLX9 KLX9 C [(52, .aload_n 0), (53, .getfield 28), (56, .getfield 146), (59, .getfield 258), (62, .iload_n 1)] (by decide +kernel) (pc' := 63) (L' := [(0, .ref 0), (1, .int r), (2, .int w)]) (st' := [.int r, .ref 76]) rfl ?_
    refine mz_callV (As := [.int r]) (rest := []) C E' (f_Row_get l D cA ρ hI (r := 76) (a := 77) (n := 8) rfl rfl (by decide) M r) hy_X6_get wl_X9_174 rfl rfl rfl ⟨Nat.le_of_ble_eq_true rfl, Nat.le_of_ble_eq_true rfl⟩ ⟨Nat.le_refl _, Nat.le_refl _⟩ (Nat.le_of_ble_eq_true rfl) (by decide +kernel) ?_ rfl
    exact mz_iret C E (by decide +kernel) (by unfold g_X9_ofRoom; rw [if_neg h1, if_pos h2]; try rfl) (rfl)
  by_cases h3 : w = 2
  · refine mz_tin (dflt := 80) (lo := 0) (hi := 3) (offs := #[29, 41, 56, 68]) (len := 29) (q := 2) (v := 2) (off := 56) (tgt := 67) C (by decide +kernel) h3 (by decide) (by decide) rfl (by decide) ?_
    refine mz_go FLX9 KLX9 C [(67, .aload_n 0), (68, .getfield 28), (71, .getfield 88), (74, .iload_n 1)] (by decide +kernel) (pc' := 75) (L' := [(0, .ref 0), (1, .int r), (2, .int w)]) (st' := [.int r, .ref 33]) rfl ?_
    refine mz_callV (As := [.int r]) (rest := []) C E' (mz_liftAR hI (f_X1_setIn l D cA ρ (mz_I1 hI) M r)) hy_X1_setIn wl_X9_261 rfl rfl rfl ⟨Nat.le_of_ble_eq_true rfl, Nat.le_of_ble_eq_true rfl⟩ ⟨Nat.le_refl _, Nat.le_refl _⟩ (Nat.le_of_ble_eq_true rfl) (by decide +kernel) ?_ rfl
    exact mz_iret C E (by decide +kernel) (by unfold g_X9_ofRoom; rw [if_neg h1, if_neg h2, if_pos h3]; try rfl) (rfl)
  by_cases h4 : w = 3
  · refine mz_tin (dflt := 80) (lo := 0) (hi := 3) (offs := #[29, 41, 56, 68]) (len := 29) (q := 3) (v := 3) (off := 68) (tgt := 79) C (by decide +kernel) h4 (by decide) (by decide) rfl (by decide) ?_
    refine mz_go FLX9 KLX9 C [(79, .aload_n 0), (80, .getfield 28), (83, .getfield 187), (86, .iload_n 1)] (by decide +kernel) (pc' := 87) (L' := [(0, .ref 0), (1, .int r), (2, .int w)]) (st' := [.int r, .ref 40]) rfl ?_
    refine mz_callV (As := [.int r]) (rest := []) C E' (mz_liftAR hI (f_X8_runningIn l D cA ρ (mz_I1 hI) M r)) hy_X8_runningIn wl_X9_264 rfl rfl rfl ⟨Nat.le_of_ble_eq_true rfl, Nat.le_of_ble_eq_true rfl⟩ ⟨Nat.le_refl _, Nat.le_refl _⟩ (Nat.le_of_ble_eq_true rfl) (by decide +kernel) ?_ rfl
    exact mz_iret C E (by decide +kernel) (by unfold g_X9_ofRoom; rw [if_neg h1, if_neg h2, if_neg h3, if_pos h4]; try rfl) (rfl)
  refine mz_tout (dflt := 80) (lo := 0) (hi := 3) (offs := #[29, 41, 56, 68]) (len := 29) (tgt := 91) C (by decide +kernel) (by have := mz_ne_toInt (v := 0) (by decide) h1; have := mz_ne_toInt (v := 1) (by decide) h2; have := mz_ne_toInt (v := 2) (by decide) h3; have := mz_ne_toInt (v := 3) (by decide) h4; omega) (by decide) ?_
  refine mz_go FLX9 KLX9 C [(91, .aload_n 0), (92, .getfield 28), (95, .getfield 106), (98, .iload_n 1)] (by decide +kernel) (pc' := 99) (L' := [(0, .ref 0), (1, .int r), (2, .int w)]) (st' := [.int r, .ref 51]) rfl ?_
  refine mz_callV (As := [.int r]) (rest := []) C E' (mz_liftAR hI (f_X5_lyingIn l D cA ρ (mz_I1 hI) M r)) hy_X5_lyingIn wl_X9_267 rfl rfl rfl ⟨Nat.le_of_ble_eq_true rfl, Nat.le_of_ble_eq_true rfl⟩ ⟨Nat.le_refl _, Nat.le_refl _⟩ (Nat.le_of_ble_eq_true rfl) (by decide +kernel) ?_ rfl
  exact mz_iret C E (by decide +kernel) (by unfold g_X9_ofRoom; rw [if_neg h1, if_neg h2, if_neg h3, if_neg h4]; try rfl) (rfl)
def g_X9_way (M : mz_Mem) (f : Int32) (t : Int32) (w : Int32) : Int32 := if w = 0 then (mz_gg 64 (M 9 0) (M 11) f t) else (mz_gg 64 (M 12 0) (M 14) f t)
set_option maxHeartbeats 4000000 in
theorem f_X9_way (l : Launch) (D : va_G) (cA : ClassId) (ρ : Nat → Nat) (hI : mz_I ρ mz_lay2) (M : mz_Mem) (f : Int32) (t : Int32) (w : Int32) (v1 : ¬ f < 0) (v2 : f < (M 1 0)) (v3 : ¬ t < 0) (v4 : t < (M 1 0)) (v5 : ¬ w < 0) (v6 : w ≤ 1) : mz_M l D vwCl cA ρ mz_lay2 yX9_way cX9_way 4 (some .int) 2 43 [.ref 0, .int f, .int t, .int w] M (some (.int (g_X9_way M f t w))) M := by
  refine mz_in0 (by decide +kernel) (Nat.le_of_ble_eq_true rfl) (fun Γ C E => ?_)
  have E' := (⟨_, _, _, E⟩ : ∃ Qc mc ms, mz_E Γ Qc mc ms (mz_A ρ mz_lay2))
  refine mz_go FLX9 KLX9 C [(0, .aload_n 0), (1, .iload_n 1)] (by decide +kernel) (pc' := 2) (L' := [(0, .ref 0), (1, .int f), (2, .int t), (3, .int w)]) (st' := [.int f, .ref 0]) rfl ?_
  refine mz_callV (As := [.int f]) (rest := []) C E' (f_X9_checkRoom l D cA ρ hI M f v1 v2) hy_X9_checkRoom wl_X9_55 rfl rfl rfl ⟨Nat.le_of_ble_eq_true rfl, Nat.le_of_ble_eq_true rfl⟩ ⟨Nat.le_refl _, Nat.le_refl _⟩ (Nat.le_of_ble_eq_true rfl) (by decide +kernel) ?_ rfl
  refine mz_go FLX9 KLX9 C [(5, .aload_n 0), (6, .iload_n 2)] (by decide +kernel) (pc' := 7) (L' := [(0, .ref 0), (1, .int f), (2, .int t), (3, .int w)]) (st' := [.int t, .ref 0]) rfl ?_
  refine mz_callV (As := [.int t]) (rest := []) C E' (f_X9_checkRoom l D cA ρ hI M t v3 v4) hy_X9_checkRoom wl_X9_55 rfl rfl rfl ⟨Nat.le_of_ble_eq_true rfl, Nat.le_of_ble_eq_true rfl⟩ ⟨Nat.le_refl _, Nat.le_refl _⟩ (Nat.le_of_ble_eq_true rfl) (by decide +kernel) ?_ rfl
  refine mz_go FLX9 KLX9 C [(10, .iload_n 3), (11, .iconst 1)] (by decide +kernel) (pc' := 12) (L' := [(0, .ref 0), (1, .int f), (2, .int t), (3, .int w)]) (st' := [.int 1, .int w]) rfl ?_
  refine mz_callS (As := [.int w, .int 1]) (rest := []) C E' (f_X9_checkWhat l D cA ρ hI M w 1 v5 v6) hs_X9_checkWhat wl_X9_252 rfl ⟨Nat.le_of_ble_eq_true rfl, Nat.le_of_ble_eq_true rfl⟩ ⟨Nat.le_refl _, Nat.le_refl _⟩ (Nat.le_of_ble_eq_true rfl) (by decide +kernel) ?_ rfl
  refine mz_go FLX9 KLX9 C [(15, .iload_n 3)] (by decide +kernel) (pc' := 16) (L' := [(0, .ref 0), (1, .int f), (2, .int t), (3, .int w)]) (st' := [.int w]) rfl ?_
  refine mz_zne (off := 18) (tgt := 34) C (by decide +kernel) (by decide) (fun h1 => ?_) (fun h1 => ?_)
  · refine mz_go FLX9 KLX9 C [(34, .aload_n 0), (35, .getfield 10), (38, .getfield 273), (41, .iload_n 1), (42, .iload_n 2)] (by decide +kernel) (pc' := 43) (L' := [(0, .ref 0), (1, .int f), (2, .int t), (3, .int w)]) (st' := [.int t, .int f, .ref 12]) rfl ?_
    refine mz_callV (As := [.int f, .int t]) (rest := []) C E' (f_Grid_get l D cA ρ hI (g := 12) (r := 13) (a := 14) (n := 64) rfl rfl rfl (by decide) M f t) hy_X3_get wl_X9_68 rfl rfl rfl ⟨Nat.le_of_ble_eq_true rfl, Nat.le_of_ble_eq_true rfl⟩ ⟨Nat.le_refl _, Nat.le_refl _⟩ (Nat.le_of_ble_eq_true rfl) (by decide +kernel) ?_ rfl
    exact mz_iret C E (by decide +kernel) (by unfold g_X9_way; rw [if_neg h1]; try rfl) (rfl)
  · refine mz_go FLX9 KLX9 C [(19, .aload_n 0), (20, .getfield 10), (23, .getfield 270), (26, .iload_n 1), (27, .iload_n 2)] (by decide +kernel) (pc' := 28) (L' := [(0, .ref 0), (1, .int f), (2, .int t), (3, .int w)]) (st' := [.int t, .int f, .ref 9]) rfl ?_
    refine mz_callV (As := [.int f, .int t]) (rest := []) C E' (f_Grid_get l D cA ρ hI (g := 9) (r := 10) (a := 11) (n := 64) rfl rfl rfl (by decide) M f t) hy_X3_get wl_X9_68 rfl rfl rfl ⟨Nat.le_of_ble_eq_true rfl, Nat.le_of_ble_eq_true rfl⟩ ⟨Nat.le_refl _, Nat.le_refl _⟩ (Nat.le_of_ble_eq_true rfl) (by decide +kernel) ?_ rfl
    refine mz_go FLX9 KLX9 C [(31, .goto 15)] (by decide +kernel) (pc' := 46) (L' := [(0, .ref 0), (1, .int f), (2, .int t), (3, .int w)]) (st' := [.int (mz_gg 64 (M 9 0) (M 11) f t)]) rfl ?_
    exact mz_iret C E (by decide +kernel) (by unfold g_X9_way; rw [if_pos h1]; try rfl) (rfl)
def g_X9_ofTrack (M : mz_Mem) (t : Int32) (w : Int32) : Int32 := if w = 0 then (mz_rg 5 (M 35) t) else if w = 1 then (g_X8_runningWith M t) else if w = 2 then (g_X8_nextSceneOf M (g_X1_rolesOf M t)) else if w = 3 then (mz_rg 5 (M 37) t) else (mz_rg 5 (M 39) t)
set_option maxHeartbeats 4000000 in
theorem f_X9_ofTrack (l : Launch) (D : va_G) (cA : ClassId) (ρ : Nat → Nat) (hI : mz_I ρ mz_lay2) (M : mz_Mem) (t : Int32) (w : Int32) (v1 : ¬ t < 0) (v2 : t < (M 15 0)) (v3 : ¬ w < 0) (v4 : w ≤ 4) : mz_M l D vwCl cA ρ mz_lay2 yX9_ofTrack cX9_ofTrack 4 (some .int) 3 66 [.ref 0, .int t, .int w] M (some (.int (g_X9_ofTrack M t w))) M := by
  refine mz_in0 (by decide +kernel) (Nat.le_of_ble_eq_true rfl) (fun Γ C E => ?_)
  have E' := (⟨_, _, _, E⟩ : ∃ Qc mc ms, mz_E Γ Qc mc ms (mz_A ρ mz_lay2))
  refine mz_go FLX9 KLX9 C [(0, .aload_n 0), (1, .iload_n 1)] (by decide +kernel) (pc' := 2) (L' := [(0, .ref 0), (1, .int t), (2, .int w)]) (st' := [.int t, .ref 0]) rfl ?_
  refine mz_callV (As := [.int t]) (rest := []) C E' (f_X9_checkTrack l D cA ρ hI M t v1 v2) hy_X9_checkTrack wl_X9_165 rfl rfl rfl ⟨Nat.le_of_ble_eq_true rfl, Nat.le_of_ble_eq_true rfl⟩ ⟨Nat.le_refl _, Nat.le_refl _⟩ (Nat.le_of_ble_eq_true rfl) (by decide +kernel) ?_ rfl
  refine mz_go FLX9 KLX9 C [(5, .iload_n 2), (6, .iconst 4)] (by decide +kernel) (pc' := 7) (L' := [(0, .ref 0), (1, .int t), (2, .int w)]) (st' := [.int 4, .int w]) rfl ?_
  refine mz_callS (As := [.int w, .int 4]) (rest := []) C E' (f_X9_checkWhat l D cA ρ hI M w 4 v3 v4) hs_X9_checkWhat wl_X9_252 rfl ⟨Nat.le_of_ble_eq_true rfl, Nat.le_of_ble_eq_true rfl⟩ ⟨Nat.le_refl _, Nat.le_refl _⟩ (Nat.le_of_ble_eq_true rfl) (by decide +kernel) ?_ rfl
  refine mz_go FLX9 KLX9 C [(10, .aload_n 0), (11, .getfield 28), (14, .getfield 88), (17, .astore_n 3), (18, .iload_n 2)] (by decide +kernel) (pc' := 19) (L' := [(3, .ref 33), (0, .ref 0), (1, .int t), (2, .int w)]) (st' := [.int w]) rfl ?_
  by_cases h1 : w = 0
  · refine mz_tin (dflt := 75) (lo := 0) (hi := 3) (offs := #[29, 38, 50, 66]) (len := 29) (q := 0) (v := 0) (off := 29) (tgt := 48) C (by decide +kernel) h1 (by decide) (by decide) rfl (by decide) ?_
    refine mz_go FLX9 KLX9 C [(48, .aload_n 3), (49, .getfield 276), (52, .iload_n 1)] (by decide +kernel) (pc' := 53) (L' := [(3, .ref 33), (0, .ref 0), (1, .int t), (2, .int w)]) (st' := [.int t, .ref 34]) rfl ?_
    refine mz_callV (As := [.int t]) (rest := []) C E' (f_Row_get l D cA ρ hI (r := 34) (a := 35) (n := 5) rfl rfl (by decide) M t) hy_X6_get wl_X9_174 rfl rfl rfl ⟨Nat.le_of_ble_eq_true rfl, Nat.le_of_ble_eq_true rfl⟩ ⟨Nat.le_refl _, Nat.le_refl _⟩ (Nat.le_of_ble_eq_true rfl) (by decide +kernel) ?_ rfl
    exact mz_iret C E (by decide +kernel) (by unfold g_X9_ofTrack; rw [if_pos h1]; try rfl) (rfl)
  by_cases h2 : w = 1
  · refine mz_tin (dflt := 75) (lo := 0) (hi := 3) (offs := #[29, 38, 50, 66]) (len := 29) (q := 1) (v := 1) (off := 38) (tgt := 57) C (by decide +kernel) h2 (by decide) (by decide) rfl (by decide) ?_
    refine mz_go FLX9 KLX9 C [(57, .aload_n 0), (58, .getfield 28), (61, .getfield 187), (64, .iload_n 1)] (by decide +kernel) (pc' := 65) (L' := [(3, .ref 33), (0, .ref 0), (1, .int t), (2, .int w)]) (st' := [.int t, .ref 40]) rfl ?_
    refine mz_callV (As := [.int t]) (rest := []) C E' (mz_liftAR hI (f_X8_runningWith l D cA ρ (mz_I1 hI) M t)) hy_X8_runningWith wl_X9_277 rfl rfl rfl ⟨Nat.le_of_ble_eq_true rfl, Nat.le_of_ble_eq_true rfl⟩ ⟨Nat.le_refl _, Nat.le_refl _⟩ (Nat.le_of_ble_eq_true rfl) (by decide +kernel) ?_ rfl
    exact mz_iret C E (by decide +kernel) (by unfold g_X9_ofTrack; rw [if_neg h1, if_pos h2]; try rfl) (rfl)
  by_cases h3 : w = 2
  · refine mz_tin (dflt := 75) (lo := 0) (hi := 3) (offs := #[29, 38, 50, 66]) (len := 29) (q := 2) (v := 2) (off := 50) (tgt := 69) C (by decide +kernel) h3 (by decide) (by decide) rfl (by decide) ?_
    refine mz_go FLX9 KLX9 C [(69, .aload_n 0), (70, .getfield 28), (73, .getfield 187), (76, .aload_n 3), (77, .iload_n 1)] (by decide +kernel) (pc' := 78) (L' := [(3, .ref 33), (0, .ref 0), (1, .int t), (2, .int w)]) (st' := [.int t, .ref 33, .ref 40]) rfl ?_
    refine mz_callV (As := [.int t]) (rest := [.ref 40]) C E' (mz_liftAR hI (f_X1_rolesOf l D cA ρ (mz_I1 hI) M t)) hy_X1_rolesOf wl_X9_280 rfl rfl rfl ⟨Nat.le_of_ble_eq_true rfl, Nat.le_of_ble_eq_true rfl⟩ ⟨Nat.le_refl _, Nat.le_refl _⟩ (Nat.le_of_ble_eq_true rfl) (by decide +kernel) ?_ rfl
    refine mz_callV (As := [.int (g_X1_rolesOf M t)]) (rest := []) C E' (mz_liftAR hI (f_X8_nextSceneOf l D cA ρ (mz_I1 hI) M (g_X1_rolesOf M t))) hy_X8_nextSceneOf wl_X9_283 rfl rfl rfl ⟨Nat.le_of_ble_eq_true rfl, Nat.le_of_ble_eq_true rfl⟩ ⟨Nat.le_refl _, Nat.le_refl _⟩ (Nat.le_of_ble_eq_true rfl) (by decide +kernel) ?_ rfl
    exact mz_iret C E (by decide +kernel) (by unfold g_X9_ofTrack; rw [if_neg h1, if_neg h2, if_pos h3]; try rfl) (rfl)
  by_cases h4 : w = 3
  · refine mz_tin (dflt := 75) (lo := 0) (hi := 3) (offs := #[29, 38, 50, 66]) (len := 29) (q := 3) (v := 3) (off := 66) (tgt := 85) C (by decide +kernel) h4 (by decide) (by decide) rfl (by decide) ?_
    refine mz_go FLX9 KLX9 C [(85, .aload_n 3), (86, .getfield 241), (89, .iload_n 1)] (by decide +kernel) (pc' := 90) (L' := [(3, .ref 33), (0, .ref 0), (1, .int t), (2, .int w)]) (st' := [.int t, .ref 36]) rfl ?_
    refine mz_callV (As := [.int t]) (rest := []) C E' (f_Row_get l D cA ρ hI (r := 36) (a := 37) (n := 5) rfl rfl (by decide) M t) hy_X6_get wl_X9_174 rfl rfl rfl ⟨Nat.le_of_ble_eq_true rfl, Nat.le_of_ble_eq_true rfl⟩ ⟨Nat.le_refl _, Nat.le_refl _⟩ (Nat.le_of_ble_eq_true rfl) (by decide +kernel) ?_ rfl
    exact mz_iret C E (by decide +kernel) (by unfold g_X9_ofTrack; rw [if_neg h1, if_neg h2, if_neg h3, if_pos h4]; try rfl) (rfl)
  refine mz_tout (dflt := 75) (lo := 0) (hi := 3) (offs := #[29, 38, 50, 66]) (len := 29) (tgt := 94) C (by decide +kernel) (by have := mz_ne_toInt (v := 0) (by decide) h1; have := mz_ne_toInt (v := 1) (by decide) h2; have := mz_ne_toInt (v := 2) (by decide) h3; have := mz_ne_toInt (v := 3) (by decide) h4; omega) (by decide) ?_
  refine mz_go FLX9 KLX9 C [(94, .aload_n 3), (95, .getfield 286), (98, .iload_n 1)] (by decide +kernel) (pc' := 99) (L' := [(3, .ref 33), (0, .ref 0), (1, .int t), (2, .int w)]) (st' := [.int t, .ref 38]) rfl ?_
  refine mz_callV (As := [.int t]) (rest := []) C E' (f_Row_get l D cA ρ hI (r := 38) (a := 39) (n := 5) rfl rfl (by decide) M t) hy_X6_get wl_X9_174 rfl rfl rfl ⟨Nat.le_of_ble_eq_true rfl, Nat.le_of_ble_eq_true rfl⟩ ⟨Nat.le_refl _, Nat.le_refl _⟩ (Nat.le_of_ble_eq_true rfl) (by decide +kernel) ?_ rfl
  exact mz_iret C E (by decide +kernel) (by unfold g_X9_ofTrack; rw [if_neg h1, if_neg h2, if_neg h3, if_neg h4]; try rfl) (rfl)
def g_X9_ofScene (M : mz_Mem) (k : Int32) (w : Int32) : Int32 := if w = 0 then (mz_rg 12 (M 21) k) else if w = 1 then (mz_rg 12 (M 23) k) else if w = 2 then (mz_rg 12 (M 25) k) else if w = 3 then (mz_rg 12 (M 27) k) else if w = 4 then (mz_rg 12 (M 29) k) else if w = 5 then (mz_rg 12 (M 42) k) else if w = 6 then (mz_rg 12 (M 44) k) else if w = 7 then (mz_rg 12 (M 46) k) else if w = 8 then (mz_rg 12 (M 48) k) else if w = 9 then (mz_rg 12 (M 50) k) else (g_X0_countKnowing M k)
set_option maxHeartbeats 4000000 in
theorem f_X9_ofScene (l : Launch) (D : va_G) (cA : ClassId) (ρ : Nat → Nat) (hI : mz_I ρ mz_lay2) (M : mz_Mem) (k : Int32) (w : Int32) (v1 : ¬ k < 0) (v2 : k < (M 15 2)) (v3 : ¬ w < 0) (v4 : w ≤ 10) : mz_M l D vwCl cA ρ mz_lay2 yX9_ofScene cX9_ofScene 4 (some .int) 3 66 [.ref 0, .int k, .int w] M (some (.int (g_X9_ofScene M k w))) M := by
  refine mz_in0 (by decide +kernel) (Nat.le_of_ble_eq_true rfl) (fun Γ C E => ?_)
  have E' := (⟨_, _, _, E⟩ : ∃ Qc mc ms, mz_E Γ Qc mc ms (mz_A ρ mz_lay2))
  refine mz_go FLX9 KLX9 C [(0, .aload_n 0), (1, .iload_n 1)] (by decide +kernel) (pc' := 2) (L' := [(0, .ref 0), (1, .int k), (2, .int w)]) (st' := [.int k, .ref 0]) rfl ?_
  refine mz_callV (As := [.int k]) (rest := []) C E' (f_X9_checkScene l D cA ρ hI M k v1 v2) hy_X9_checkScene wl_X9_289 rfl rfl rfl ⟨Nat.le_of_ble_eq_true rfl, Nat.le_of_ble_eq_true rfl⟩ ⟨Nat.le_refl _, Nat.le_refl _⟩ (Nat.le_of_ble_eq_true rfl) (by decide +kernel) ?_ rfl
  refine mz_go FLX9 KLX9 C [(5, .iload_n 2), (6, .bipush 10)] (by decide +kernel) (pc' := 8) (L' := [(0, .ref 0), (1, .int k), (2, .int w)]) (st' := [.int 10, .int w]) rfl ?_
  refine mz_callS (As := [.int w, .int 10]) (rest := []) C E' (f_X9_checkWhat l D cA ρ hI M w 10 v3 v4) hs_X9_checkWhat wl_X9_252 rfl ⟨Nat.le_of_ble_eq_true rfl, Nat.le_of_ble_eq_true rfl⟩ ⟨Nat.le_refl _, Nat.le_refl _⟩ (Nat.le_of_ble_eq_true rfl) (by decide +kernel) ?_ rfl
  refine mz_go FLX9 KLX9 C [(11, .aload_n 0), (12, .getfield 28), (15, .getfield 187), (18, .astore_n 3), (19, .iload_n 2)] (by decide +kernel) (pc' := 20) (L' := [(3, .ref 40), (0, .ref 0), (1, .int k), (2, .int w)]) (st' := [.int w]) rfl ?_
  by_cases h1 : w = 0
  · refine mz_tin (dflt := 161) (lo := 0) (hi := 9) (offs := #[56, 68, 80, 92, 104, 116, 125, 134, 143, 152]) (len := 56) (q := 0) (v := 0) (off := 56) (tgt := 76) C (by decide +kernel) h1 (by decide) (by decide) rfl (by decide) ?_
    refine mz_go FLX9 KLX9 C [(76, .aload_n 0), (77, .getfield 19), (80, .getfield 292), (83, .iload_n 1)] (by decide +kernel) (pc' := 84) (L' := [(3, .ref 40), (0, .ref 0), (1, .int k), (2, .int w)]) (st' := [.int k, .ref 20]) rfl ?_
    refine mz_callV (As := [.int k]) (rest := []) C E' (f_Row_get l D cA ρ hI (r := 20) (a := 21) (n := 12) rfl rfl (by decide) M k) hy_X6_get wl_X9_174 rfl rfl rfl ⟨Nat.le_of_ble_eq_true rfl, Nat.le_of_ble_eq_true rfl⟩ ⟨Nat.le_refl _, Nat.le_refl _⟩ (Nat.le_of_ble_eq_true rfl) (by decide +kernel) ?_ rfl
    exact mz_iret C E (by decide +kernel) (by unfold g_X9_ofScene; rw [if_pos h1]; try rfl) (rfl)
  by_cases h2 : w = 1
  · refine mz_tin (dflt := 161) (lo := 0) (hi := 9) (offs := #[56, 68, 80, 92, 104, 116, 125, 134, 143, 152]) (len := 56) (q := 1) (v := 1) (off := 68) (tgt := 88) C (by decide +kernel) h2 (by decide) (by decide) rfl (by decide) ?_
    refine mz_go FLX9 KLX9 C [(88, .aload_n 0), (89, .getfield 19), (92, .getfield 293), (95, .iload_n 1)] (by decide +kernel) (pc' := 96) (L' := [(3, .ref 40), (0, .ref 0), (1, .int k), (2, .int w)]) (st' := [.int k, .ref 22]) rfl ?_
    refine mz_callV (As := [.int k]) (rest := []) C E' (f_Row_get l D cA ρ hI (r := 22) (a := 23) (n := 12) rfl rfl (by decide) M k) hy_X6_get wl_X9_174 rfl rfl rfl ⟨Nat.le_of_ble_eq_true rfl, Nat.le_of_ble_eq_true rfl⟩ ⟨Nat.le_refl _, Nat.le_refl _⟩ (Nat.le_of_ble_eq_true rfl) (by decide +kernel) ?_ rfl
    exact mz_iret C E (by decide +kernel) (by unfold g_X9_ofScene; rw [if_neg h1, if_pos h2]; try rfl) (rfl)
  by_cases h3 : w = 2
  · refine mz_tin (dflt := 161) (lo := 0) (hi := 9) (offs := #[56, 68, 80, 92, 104, 116, 125, 134, 143, 152]) (len := 56) (q := 2) (v := 2) (off := 80) (tgt := 100) C (by decide +kernel) h3 (by decide) (by decide) rfl (by decide) ?_
    refine mz_go FLX9 KLX9 C [(100, .aload_n 0), (101, .getfield 19), (104, .getfield 296), (107, .iload_n 1)] (by decide +kernel) (pc' := 108) (L' := [(3, .ref 40), (0, .ref 0), (1, .int k), (2, .int w)]) (st' := [.int k, .ref 24]) rfl ?_
    refine mz_callV (As := [.int k]) (rest := []) C E' (f_Row_get l D cA ρ hI (r := 24) (a := 25) (n := 12) rfl rfl (by decide) M k) hy_X6_get wl_X9_174 rfl rfl rfl ⟨Nat.le_of_ble_eq_true rfl, Nat.le_of_ble_eq_true rfl⟩ ⟨Nat.le_refl _, Nat.le_refl _⟩ (Nat.le_of_ble_eq_true rfl) (by decide +kernel) ?_ rfl
    exact mz_iret C E (by decide +kernel) (by unfold g_X9_ofScene; rw [if_neg h1, if_neg h2, if_pos h3]; try rfl) (rfl)
  by_cases h4 : w = 3
  · refine mz_tin (dflt := 161) (lo := 0) (hi := 9) (offs := #[56, 68, 80, 92, 104, 116, 125, 134, 143, 152]) (len := 56) (q := 3) (v := 3) (off := 92) (tgt := 112) C (by decide +kernel) h4 (by decide) (by decide) rfl (by decide) ?_
    refine mz_go FLX9 KLX9 C [(112, .aload_n 0), (113, .getfield 19), (116, .getfield 299), (119, .iload_n 1)] (by decide +kernel) (pc' := 120) (L' := [(3, .ref 40), (0, .ref 0), (1, .int k), (2, .int w)]) (st' := [.int k, .ref 26]) rfl ?_
    refine mz_callV (As := [.int k]) (rest := []) C E' (f_Row_get l D cA ρ hI (r := 26) (a := 27) (n := 12) rfl rfl (by decide) M k) hy_X6_get wl_X9_174 rfl rfl rfl ⟨Nat.le_of_ble_eq_true rfl, Nat.le_of_ble_eq_true rfl⟩ ⟨Nat.le_refl _, Nat.le_refl _⟩ (Nat.le_of_ble_eq_true rfl) (by decide +kernel) ?_ rfl
    exact mz_iret C E (by decide +kernel) (by unfold g_X9_ofScene; rw [if_neg h1, if_neg h2, if_neg h3, if_pos h4]; try rfl) (rfl)
  by_cases h5 : w = 4
  · refine mz_tin (dflt := 161) (lo := 0) (hi := 9) (offs := #[56, 68, 80, 92, 104, 116, 125, 134, 143, 152]) (len := 56) (q := 4) (v := 4) (off := 104) (tgt := 124) C (by decide +kernel) h5 (by decide) (by decide) rfl (by decide) ?_
    refine mz_go FLX9 KLX9 C [(124, .aload_n 0), (125, .getfield 19), (128, .getfield 302), (131, .iload_n 1)] (by decide +kernel) (pc' := 132) (L' := [(3, .ref 40), (0, .ref 0), (1, .int k), (2, .int w)]) (st' := [.int k, .ref 28]) rfl ?_
    refine mz_callV (As := [.int k]) (rest := []) C E' (f_Row_get l D cA ρ hI (r := 28) (a := 29) (n := 12) rfl rfl (by decide) M k) hy_X6_get wl_X9_174 rfl rfl rfl ⟨Nat.le_of_ble_eq_true rfl, Nat.le_of_ble_eq_true rfl⟩ ⟨Nat.le_refl _, Nat.le_refl _⟩ (Nat.le_of_ble_eq_true rfl) (by decide +kernel) ?_ rfl
    exact mz_iret C E (by decide +kernel) (by unfold g_X9_ofScene; rw [if_neg h1, if_neg h2, if_neg h3, if_neg h4, if_pos h5]; try rfl) (rfl)
  by_cases h6 : w = 5
  · refine mz_tin (dflt := 161) (lo := 0) (hi := 9) (offs := #[56, 68, 80, 92, 104, 116, 125, 134, 143, 152]) (len := 56) (q := 5) (v := 5) (off := 116) (tgt := 136) C (by decide +kernel) h6 (by decide) (by decide) rfl (by decide) ?_
    refine mz_go FLX9 KLX9 C [(136, .aload_n 3), (137, .getfield 305), (140, .iload_n 1)] (by decide +kernel) (pc' := 141) (L' := [(3, .ref 40), (0, .ref 0), (1, .int k), (2, .int w)]) (st' := [.int k, .ref 41]) rfl ?_
    refine mz_callV (As := [.int k]) (rest := []) C E' (f_Row_get l D cA ρ hI (r := 41) (a := 42) (n := 12) rfl rfl (by decide) M k) hy_X6_get wl_X9_174 rfl rfl rfl ⟨Nat.le_of_ble_eq_true rfl, Nat.le_of_ble_eq_true rfl⟩ ⟨Nat.le_refl _, Nat.le_refl _⟩ (Nat.le_of_ble_eq_true rfl) (by decide +kernel) ?_ rfl
    exact mz_iret C E (by decide +kernel) (by unfold g_X9_ofScene; rw [if_neg h1, if_neg h2, if_neg h3, if_neg h4, if_neg h5, if_pos h6]; try rfl) (rfl)
  by_cases h7 : w = 6
  · refine mz_tin (dflt := 161) (lo := 0) (hi := 9) (offs := #[56, 68, 80, 92, 104, 116, 125, 134, 143, 152]) (len := 56) (q := 6) (v := 6) (off := 125) (tgt := 145) C (by decide +kernel) h7 (by decide) (by decide) rfl (by decide) ?_
    refine mz_go FLX9 KLX9 C [(145, .aload_n 3), (146, .getfield 308), (149, .iload_n 1)] (by decide +kernel) (pc' := 150) (L' := [(3, .ref 40), (0, .ref 0), (1, .int k), (2, .int w)]) (st' := [.int k, .ref 43]) rfl ?_
    refine mz_callV (As := [.int k]) (rest := []) C E' (f_Row_get l D cA ρ hI (r := 43) (a := 44) (n := 12) rfl rfl (by decide) M k) hy_X6_get wl_X9_174 rfl rfl rfl ⟨Nat.le_of_ble_eq_true rfl, Nat.le_of_ble_eq_true rfl⟩ ⟨Nat.le_refl _, Nat.le_refl _⟩ (Nat.le_of_ble_eq_true rfl) (by decide +kernel) ?_ rfl
    exact mz_iret C E (by decide +kernel) (by unfold g_X9_ofScene; rw [if_neg h1, if_neg h2, if_neg h3, if_neg h4, if_neg h5, if_neg h6, if_pos h7]; try rfl) (rfl)
  by_cases h8 : w = 7
  · refine mz_tin (dflt := 161) (lo := 0) (hi := 9) (offs := #[56, 68, 80, 92, 104, 116, 125, 134, 143, 152]) (len := 56) (q := 7) (v := 7) (off := 134) (tgt := 154) C (by decide +kernel) h8 (by decide) (by decide) rfl (by decide) ?_
    refine mz_go FLX9 KLX9 C [(154, .aload_n 3), (155, .getfield 311), (158, .iload_n 1)] (by decide +kernel) (pc' := 159) (L' := [(3, .ref 40), (0, .ref 0), (1, .int k), (2, .int w)]) (st' := [.int k, .ref 45]) rfl ?_
    refine mz_callV (As := [.int k]) (rest := []) C E' (f_Row_get l D cA ρ hI (r := 45) (a := 46) (n := 12) rfl rfl (by decide) M k) hy_X6_get wl_X9_174 rfl rfl rfl ⟨Nat.le_of_ble_eq_true rfl, Nat.le_of_ble_eq_true rfl⟩ ⟨Nat.le_refl _, Nat.le_refl _⟩ (Nat.le_of_ble_eq_true rfl) (by decide +kernel) ?_ rfl
    exact mz_iret C E (by decide +kernel) (by unfold g_X9_ofScene; rw [if_neg h1, if_neg h2, if_neg h3, if_neg h4, if_neg h5, if_neg h6, if_neg h7, if_pos h8]; try rfl) (rfl)
  by_cases h9 : w = 8
  · refine mz_tin (dflt := 161) (lo := 0) (hi := 9) (offs := #[56, 68, 80, 92, 104, 116, 125, 134, 143, 152]) (len := 56) (q := 8) (v := 8) (off := 143) (tgt := 163) C (by decide +kernel) h9 (by decide) (by decide) rfl (by decide) ?_
    refine mz_go FLX9 KLX9 C [(163, .aload_n 3), (164, .getfield 191), (167, .iload_n 1)] (by decide +kernel) (pc' := 168) (L' := [(3, .ref 40), (0, .ref 0), (1, .int k), (2, .int w)]) (st' := [.int k, .ref 47]) rfl ?_
    refine mz_callV (As := [.int k]) (rest := []) C E' (f_Row_get l D cA ρ hI (r := 47) (a := 48) (n := 12) rfl rfl (by decide) M k) hy_X6_get wl_X9_174 rfl rfl rfl ⟨Nat.le_of_ble_eq_true rfl, Nat.le_of_ble_eq_true rfl⟩ ⟨Nat.le_refl _, Nat.le_refl _⟩ (Nat.le_of_ble_eq_true rfl) (by decide +kernel) ?_ rfl
    exact mz_iret C E (by decide +kernel) (by unfold g_X9_ofScene; rw [if_neg h1, if_neg h2, if_neg h3, if_neg h4, if_neg h5, if_neg h6, if_neg h7, if_neg h8, if_pos h9]; try rfl) (rfl)
  by_cases h10 : w = 9
  · refine mz_tin (dflt := 161) (lo := 0) (hi := 9) (offs := #[56, 68, 80, 92, 104, 116, 125, 134, 143, 152]) (len := 56) (q := 9) (v := 9) (off := 152) (tgt := 172) C (by decide +kernel) h10 (by decide) (by decide) rfl (by decide) ?_
    refine mz_go FLX9 KLX9 C [(172, .aload_n 3), (173, .getfield 314), (176, .iload_n 1)] (by decide +kernel) (pc' := 177) (L' := [(3, .ref 40), (0, .ref 0), (1, .int k), (2, .int w)]) (st' := [.int k, .ref 49]) rfl ?_
    refine mz_callV (As := [.int k]) (rest := []) C E' (f_Row_get l D cA ρ hI (r := 49) (a := 50) (n := 12) rfl rfl (by decide) M k) hy_X6_get wl_X9_174 rfl rfl rfl ⟨Nat.le_of_ble_eq_true rfl, Nat.le_of_ble_eq_true rfl⟩ ⟨Nat.le_refl _, Nat.le_refl _⟩ (Nat.le_of_ble_eq_true rfl) (by decide +kernel) ?_ rfl
    exact mz_iret C E (by decide +kernel) (by unfold g_X9_ofScene; rw [if_neg h1, if_neg h2, if_neg h3, if_neg h4, if_neg h5, if_neg h6, if_neg h7, if_neg h8, if_neg h9, if_pos h10]; try rfl) (rfl)
  refine mz_tout (dflt := 161) (lo := 0) (hi := 9) (offs := #[56, 68, 80, 92, 104, 116, 125, 134, 143, 152]) (len := 56) (tgt := 181) C (by decide +kernel) (by have := mz_ne_toInt (v := 0) (by decide) h1; have := mz_ne_toInt (v := 1) (by decide) h2; have := mz_ne_toInt (v := 2) (by decide) h3; have := mz_ne_toInt (v := 3) (by decide) h4; have := mz_ne_toInt (v := 4) (by decide) h5; have := mz_ne_toInt (v := 5) (by decide) h6; have := mz_ne_toInt (v := 6) (by decide) h7; have := mz_ne_toInt (v := 7) (by decide) h8; have := mz_ne_toInt (v := 8) (by decide) h9; have := mz_ne_toInt (v := 9) (by decide) h10; omega) (by decide) ?_
  refine mz_go FLX9 KLX9 C [(181, .aload_n 0), (182, .getfield 28), (185, .getfield 146), (188, .iload_n 1)] (by decide +kernel) (pc' := 189) (L' := [(3, .ref 40), (0, .ref 0), (1, .int k), (2, .int w)]) (st' := [.int k, .ref 60]) rfl ?_
  refine mz_callV (As := [.int k]) (rest := []) C E' (mz_liftAR hI (f_X0_countKnowing l D cA ρ (mz_I1 hI) M k)) hy_X0_countKnowing wl_X9_317 rfl rfl rfl ⟨Nat.le_of_ble_eq_true rfl, Nat.le_of_ble_eq_true rfl⟩ ⟨Nat.le_refl _, Nat.le_refl _⟩ (Nat.le_of_ble_eq_true rfl) (by decide +kernel) ?_ rfl
  exact mz_iret C E (by decide +kernel) (by unfold g_X9_ofScene; rw [if_neg h1, if_neg h2, if_neg h3, if_neg h4, if_neg h5, if_neg h6, if_neg h7, if_neg h8, if_neg h9, if_neg h10]; try rfl) (rfl)
def g_X9_ofGuest (M : mz_Mem) (g : Int32) (w : Int32) : Int32 := if w = 0 then (mz_rg 12 (M 62) g) else if w = 1 then (mz_rg 12 (M 64) g) else if w = 2 then (mz_rg 12 (M 66) g) else if w = 3 then (g_X5_heldByGuest M g) else if w = 4 then (mz_rg 12 (M 68) g) else if w = 5 then (mz_rg 12 (M 70) g) else (mz_rg 12 (M 72) g)
set_option maxHeartbeats 4000000 in
theorem f_X9_ofGuest (l : Launch) (D : va_G) (cA : ClassId) (ρ : Nat → Nat) (hI : mz_I ρ mz_lay2) (M : mz_Mem) (g : Int32) (w : Int32) (v1 : ¬ g < 0) (v2 : g < (M 60 0)) (v3 : ¬ w < 0) (v4 : w ≤ 6) : mz_M l D vwCl cA ρ mz_lay2 yX9_ofGuest cX9_ofGuest 4 (some .int) 2 43 [.ref 0, .int g, .int w] M (some (.int (g_X9_ofGuest M g w))) M := by
  refine mz_in0 (by decide +kernel) (Nat.le_of_ble_eq_true rfl) (fun Γ C E => ?_)
  have E' := (⟨_, _, _, E⟩ : ∃ Qc mc ms, mz_E Γ Qc mc ms (mz_A ρ mz_lay2))
  refine mz_go FLX9 KLX9 C [(0, .aload_n 0), (1, .iload_n 1)] (by decide +kernel) (pc' := 2) (L' := [(0, .ref 0), (1, .int g), (2, .int w)]) (st' := [.int g, .ref 0]) rfl ?_
  refine mz_callV (As := [.int g]) (rest := []) C E' (f_X9_checkGuest l D cA ρ hI M g v1 v2) hy_X9_checkGuest wl_X9_162 rfl rfl rfl ⟨Nat.le_of_ble_eq_true rfl, Nat.le_of_ble_eq_true rfl⟩ ⟨Nat.le_refl _, Nat.le_refl _⟩ (Nat.le_of_ble_eq_true rfl) (by decide +kernel) ?_ rfl
  refine mz_go FLX9 KLX9 C [(5, .iload_n 2), (6, .bipush 6)] (by decide +kernel) (pc' := 8) (L' := [(0, .ref 0), (1, .int g), (2, .int w)]) (st' := [.int 6, .int w]) rfl ?_
  refine mz_callS (As := [.int w, .int 6]) (rest := []) C E' (f_X9_checkWhat l D cA ρ hI M w 6 v3 v4) hs_X9_checkWhat wl_X9_252 rfl ⟨Nat.le_of_ble_eq_true rfl, Nat.le_of_ble_eq_true rfl⟩ ⟨Nat.le_refl _, Nat.le_refl _⟩ (Nat.le_of_ble_eq_true rfl) (by decide +kernel) ?_ rfl
  refine mz_go FLX9 KLX9 C [(11, .aload_n 0), (12, .getfield 28), (15, .getfield 146), (18, .astore_n 3), (19, .iload_n 2)] (by decide +kernel) (pc' := 20) (L' := [(3, .ref 60), (0, .ref 0), (1, .int g), (2, .int w)]) (st' := [.int w]) rfl ?_
  by_cases h1 : w = 0
  · refine mz_tin (dflt := 97) (lo := 0) (hi := 5) (offs := #[40, 49, 58, 67, 79, 88]) (len := 40) (q := 0) (v := 0) (off := 40) (tgt := 60) C (by decide +kernel) h1 (by decide) (by decide) rfl (by decide) ?_
    refine mz_go FLX9 KLX9 C [(60, .aload_n 3), (61, .getfield 225), (64, .iload_n 1)] (by decide +kernel) (pc' := 65) (L' := [(3, .ref 60), (0, .ref 0), (1, .int g), (2, .int w)]) (st' := [.int g, .ref 61]) rfl ?_
    refine mz_callV (As := [.int g]) (rest := []) C E' (f_Row_get l D cA ρ hI (r := 61) (a := 62) (n := 12) rfl rfl (by decide) M g) hy_X6_get wl_X9_174 rfl rfl rfl ⟨Nat.le_of_ble_eq_true rfl, Nat.le_of_ble_eq_true rfl⟩ ⟨Nat.le_refl _, Nat.le_refl _⟩ (Nat.le_of_ble_eq_true rfl) (by decide +kernel) ?_ rfl
    exact mz_iret C E (by decide +kernel) (by unfold g_X9_ofGuest; rw [if_pos h1]; try rfl) (rfl)
  by_cases h2 : w = 1
  · refine mz_tin (dflt := 97) (lo := 0) (hi := 5) (offs := #[40, 49, 58, 67, 79, 88]) (len := 40) (q := 1) (v := 1) (off := 49) (tgt := 69) C (by decide +kernel) h2 (by decide) (by decide) rfl (by decide) ?_
    refine mz_go FLX9 KLX9 C [(69, .aload_n 3), (70, .getfield 170), (73, .iload_n 1)] (by decide +kernel) (pc' := 74) (L' := [(3, .ref 60), (0, .ref 0), (1, .int g), (2, .int w)]) (st' := [.int g, .ref 63]) rfl ?_
    refine mz_callV (As := [.int g]) (rest := []) C E' (f_Row_get l D cA ρ hI (r := 63) (a := 64) (n := 12) rfl rfl (by decide) M g) hy_X6_get wl_X9_174 rfl rfl rfl ⟨Nat.le_of_ble_eq_true rfl, Nat.le_of_ble_eq_true rfl⟩ ⟨Nat.le_refl _, Nat.le_refl _⟩ (Nat.le_of_ble_eq_true rfl) (by decide +kernel) ?_ rfl
    exact mz_iret C E (by decide +kernel) (by unfold g_X9_ofGuest; rw [if_neg h1, if_pos h2]; try rfl) (rfl)
  by_cases h3 : w = 2
  · refine mz_tin (dflt := 97) (lo := 0) (hi := 5) (offs := #[40, 49, 58, 67, 79, 88]) (len := 40) (q := 2) (v := 2) (off := 58) (tgt := 78) C (by decide +kernel) h3 (by decide) (by decide) rfl (by decide) ?_
    refine mz_go FLX9 KLX9 C [(78, .aload_n 3), (79, .getfield 320), (82, .iload_n 1)] (by decide +kernel) (pc' := 83) (L' := [(3, .ref 60), (0, .ref 0), (1, .int g), (2, .int w)]) (st' := [.int g, .ref 65]) rfl ?_
    refine mz_callV (As := [.int g]) (rest := []) C E' (f_Row_get l D cA ρ hI (r := 65) (a := 66) (n := 12) rfl rfl (by decide) M g) hy_X6_get wl_X9_174 rfl rfl rfl ⟨Nat.le_of_ble_eq_true rfl, Nat.le_of_ble_eq_true rfl⟩ ⟨Nat.le_refl _, Nat.le_refl _⟩ (Nat.le_of_ble_eq_true rfl) (by decide +kernel) ?_ rfl
    exact mz_iret C E (by decide +kernel) (by unfold g_X9_ofGuest; rw [if_neg h1, if_neg h2, if_pos h3]; try rfl) (rfl)
  by_cases h4 : w = 3
  · refine mz_tin (dflt := 97) (lo := 0) (hi := 5) (offs := #[40, 49, 58, 67, 79, 88]) (len := 40) (q := 3) (v := 3) (off := 67) (tgt := 87) C (by decide +kernel) h4 (by decide) (by decide) rfl (by decide) ?_
    refine mz_go FLX9 KLX9 C [(87, .aload_n 0), (88, .getfield 28), (91, .getfield 106), (94, .iload_n 1)] (by decide +kernel) (pc' := 95) (L' := [(3, .ref 60), (0, .ref 0), (1, .int g), (2, .int w)]) (st' := [.int g, .ref 51]) rfl ?_
    refine mz_callV (As := [.int g]) (rest := []) C E' (mz_liftAR hI (f_X5_heldByGuest l D cA ρ (mz_I1 hI) M g)) hy_X5_heldByGuest wl_X9_220 rfl rfl rfl ⟨Nat.le_of_ble_eq_true rfl, Nat.le_of_ble_eq_true rfl⟩ ⟨Nat.le_refl _, Nat.le_refl _⟩ (Nat.le_of_ble_eq_true rfl) (by decide +kernel) ?_ rfl
    exact mz_iret C E (by decide +kernel) (by unfold g_X9_ofGuest; rw [if_neg h1, if_neg h2, if_neg h3, if_pos h4]; try rfl) (rfl)
  by_cases h5 : w = 4
  · refine mz_tin (dflt := 97) (lo := 0) (hi := 5) (offs := #[40, 49, 58, 67, 79, 88]) (len := 40) (q := 4) (v := 4) (off := 79) (tgt := 99) C (by decide +kernel) h5 (by decide) (by decide) rfl (by decide) ?_
    refine mz_go FLX9 KLX9 C [(99, .aload_n 3), (100, .getfield 323), (103, .iload_n 1)] (by decide +kernel) (pc' := 104) (L' := [(3, .ref 60), (0, .ref 0), (1, .int g), (2, .int w)]) (st' := [.int g, .ref 67]) rfl ?_
    refine mz_callV (As := [.int g]) (rest := []) C E' (f_Row_get l D cA ρ hI (r := 67) (a := 68) (n := 12) rfl rfl (by decide) M g) hy_X6_get wl_X9_174 rfl rfl rfl ⟨Nat.le_of_ble_eq_true rfl, Nat.le_of_ble_eq_true rfl⟩ ⟨Nat.le_refl _, Nat.le_refl _⟩ (Nat.le_of_ble_eq_true rfl) (by decide +kernel) ?_ rfl
    exact mz_iret C E (by decide +kernel) (by unfold g_X9_ofGuest; rw [if_neg h1, if_neg h2, if_neg h3, if_neg h4, if_pos h5]; try rfl) (rfl)
  by_cases h6 : w = 5
  · refine mz_tin (dflt := 97) (lo := 0) (hi := 5) (offs := #[40, 49, 58, 67, 79, 88]) (len := 40) (q := 5) (v := 5) (off := 88) (tgt := 108) C (by decide +kernel) h6 (by decide) (by decide) rfl (by decide) ?_
    refine mz_go FLX9 KLX9 C [(108, .aload_n 3), (109, .getfield 326), (112, .iload_n 1)] (by decide +kernel) (pc' := 113) (L' := [(3, .ref 60), (0, .ref 0), (1, .int g), (2, .int w)]) (st' := [.int g, .ref 69]) rfl ?_
    refine mz_callV (As := [.int g]) (rest := []) C E' (f_Row_get l D cA ρ hI (r := 69) (a := 70) (n := 12) rfl rfl (by decide) M g) hy_X6_get wl_X9_174 rfl rfl rfl ⟨Nat.le_of_ble_eq_true rfl, Nat.le_of_ble_eq_true rfl⟩ ⟨Nat.le_refl _, Nat.le_refl _⟩ (Nat.le_of_ble_eq_true rfl) (by decide +kernel) ?_ rfl
    exact mz_iret C E (by decide +kernel) (by unfold g_X9_ofGuest; rw [if_neg h1, if_neg h2, if_neg h3, if_neg h4, if_neg h5, if_pos h6]; try rfl) (rfl)
  refine mz_tout (dflt := 97) (lo := 0) (hi := 5) (offs := #[40, 49, 58, 67, 79, 88]) (len := 40) (tgt := 117) C (by decide +kernel) (by have := mz_ne_toInt (v := 0) (by decide) h1; have := mz_ne_toInt (v := 1) (by decide) h2; have := mz_ne_toInt (v := 2) (by decide) h3; have := mz_ne_toInt (v := 3) (by decide) h4; have := mz_ne_toInt (v := 4) (by decide) h5; have := mz_ne_toInt (v := 5) (by decide) h6; omega) (by decide) ?_
  refine mz_go FLX9 KLX9 C [(117, .aload_n 3), (118, .getfield 327), (121, .iload_n 1)] (by decide +kernel) (pc' := 122) (L' := [(3, .ref 60), (0, .ref 0), (1, .int g), (2, .int w)]) (st' := [.int g, .ref 71]) rfl ?_
  refine mz_callV (As := [.int g]) (rest := []) C E' (f_Row_get l D cA ρ hI (r := 71) (a := 72) (n := 12) rfl rfl (by decide) M g) hy_X6_get wl_X9_174 rfl rfl rfl ⟨Nat.le_of_ble_eq_true rfl, Nat.le_of_ble_eq_true rfl⟩ ⟨Nat.le_refl _, Nat.le_refl _⟩ (Nat.le_of_ble_eq_true rfl) (by decide +kernel) ?_ rfl
  exact mz_iret C E (by decide +kernel) (by unfold g_X9_ofGuest; rw [if_neg h1, if_neg h2, if_neg h3, if_neg h4, if_neg h5, if_neg h6]; try rfl) (rfl)
def g_X9_ofProp (M : mz_Mem) (p : Int32) (w : Int32) : Int32 := if w = 0 then (mz_rg 4 (M 19) p) else if w = 1 then (g_X2_roomOfProp M p) else if w = 2 then (mz_rg 4 (M 55) p) else if w = 3 then (mz_rg 4 (M 57) p) else (mz_rg 4 (M 59) p)
set_option maxHeartbeats 4000000 in
theorem f_X9_ofProp (l : Launch) (D : va_G) (cA : ClassId) (ρ : Nat → Nat) (hI : mz_I ρ mz_lay2) (M : mz_Mem) (p : Int32) (w : Int32) (v1 : ¬ p < 0) (v2 : p < (M 15 1)) (v3 : ¬ w < 0) (v4 : w ≤ 4) : mz_M l D vwCl cA ρ mz_lay2 yX9_ofProp cX9_ofProp 3 (some .int) 2 42 [.ref 0, .int p, .int w] M (some (.int (g_X9_ofProp M p w))) M := by
  refine mz_in0 (by decide +kernel) (Nat.le_of_ble_eq_true rfl) (fun Γ C E => ?_)
  have E' := (⟨_, _, _, E⟩ : ∃ Qc mc ms, mz_E Γ Qc mc ms (mz_A ρ mz_lay2))
  refine mz_go FLX9 KLX9 C [(0, .aload_n 0), (1, .iload_n 1)] (by decide +kernel) (pc' := 2) (L' := [(0, .ref 0), (1, .int p), (2, .int w)]) (st' := [.int p, .ref 0]) rfl ?_
  refine mz_callV (As := [.int p]) (rest := []) C E' (f_X9_checkProp l D cA ρ hI M p v1 v2) hy_X9_checkProp wl_X9_114 rfl rfl rfl ⟨Nat.le_of_ble_eq_true rfl, Nat.le_of_ble_eq_true rfl⟩ ⟨Nat.le_refl _, Nat.le_refl _⟩ (Nat.le_of_ble_eq_true rfl) (by decide +kernel) ?_ rfl
  refine mz_go FLX9 KLX9 C [(5, .iload_n 2), (6, .iconst 4)] (by decide +kernel) (pc' := 7) (L' := [(0, .ref 0), (1, .int p), (2, .int w)]) (st' := [.int 4, .int w]) rfl ?_
  refine mz_callS (As := [.int w, .int 4]) (rest := []) C E' (f_X9_checkWhat l D cA ρ hI M w 4 v3 v4) hs_X9_checkWhat wl_X9_252 rfl ⟨Nat.le_of_ble_eq_true rfl, Nat.le_of_ble_eq_true rfl⟩ ⟨Nat.le_refl _, Nat.le_refl _⟩ (Nat.le_of_ble_eq_true rfl) (by decide +kernel) ?_ rfl
  refine mz_go FLX9 KLX9 C [(10, .iload_n 2)] (by decide +kernel) (pc' := 11) (L' := [(0, .ref 0), (1, .int p), (2, .int w)]) (st' := [.int w]) rfl ?_
  by_cases h1 : w = 0
  · refine mz_tin (dflt := 80) (lo := 0) (hi := 3) (offs := #[29, 41, 50, 65]) (len := 29) (q := 0) (v := 0) (off := 29) (tgt := 40) C (by decide +kernel) h1 (by decide) (by decide) rfl (by decide) ?_
    refine mz_go FLX9 KLX9 C [(40, .aload_n 0), (41, .getfield 19), (44, .getfield 330), (47, .iload_n 1)] (by decide +kernel) (pc' := 48) (L' := [(0, .ref 0), (1, .int p), (2, .int w)]) (st' := [.int p, .ref 18]) rfl ?_
    refine mz_callV (As := [.int p]) (rest := []) C E' (f_Row_get l D cA ρ hI (r := 18) (a := 19) (n := 4) rfl rfl (by decide) M p) hy_X6_get wl_X9_174 rfl rfl rfl ⟨Nat.le_of_ble_eq_true rfl, Nat.le_of_ble_eq_true rfl⟩ ⟨Nat.le_refl _, Nat.le_refl _⟩ (Nat.le_of_ble_eq_true rfl) (by decide +kernel) ?_ rfl
    exact mz_iret C E (by decide +kernel) (by unfold g_X9_ofProp; rw [if_pos h1]; try rfl) (rfl)
  by_cases h2 : w = 1
  · refine mz_tin (dflt := 80) (lo := 0) (hi := 3) (offs := #[29, 41, 50, 65]) (len := 29) (q := 1) (v := 1) (off := 41) (tgt := 52) C (by decide +kernel) h2 (by decide) (by decide) rfl (by decide) ?_
    refine mz_go FLX9 KLX9 C [(52, .aload_n 0), (53, .getfield 28), (56, .iload_n 1)] (by decide +kernel) (pc' := 57) (L' := [(0, .ref 0), (1, .int p), (2, .int w)]) (st' := [.int p, .ref 30]) rfl ?_
    refine mz_callV (As := [.int p]) (rest := []) C E' (mz_liftAR hI (f_X2_roomOfProp l D cA ρ (mz_I1 hI) M p)) hy_X2_roomOfProp wl_X9_333 rfl rfl rfl ⟨Nat.le_of_ble_eq_true rfl, Nat.le_of_ble_eq_true rfl⟩ ⟨Nat.le_refl _, Nat.le_refl _⟩ (Nat.le_of_ble_eq_true rfl) (by decide +kernel) ?_ rfl
    exact mz_iret C E (by decide +kernel) (by unfold g_X9_ofProp; rw [if_neg h1, if_pos h2]; try rfl) (rfl)
  by_cases h3 : w = 2
  · refine mz_tin (dflt := 80) (lo := 0) (hi := 3) (offs := #[29, 41, 50, 65]) (len := 29) (q := 2) (v := 2) (off := 50) (tgt := 61) C (by decide +kernel) h3 (by decide) (by decide) rfl (by decide) ?_
    refine mz_go FLX9 KLX9 C [(61, .aload_n 0), (62, .getfield 28), (65, .getfield 106), (68, .getfield 336), (71, .iload_n 1)] (by decide +kernel) (pc' := 72) (L' := [(0, .ref 0), (1, .int p), (2, .int w)]) (st' := [.int p, .ref 54]) rfl ?_
    refine mz_callV (As := [.int p]) (rest := []) C E' (f_Row_get l D cA ρ hI (r := 54) (a := 55) (n := 4) rfl rfl (by decide) M p) hy_X6_get wl_X9_174 rfl rfl rfl ⟨Nat.le_of_ble_eq_true rfl, Nat.le_of_ble_eq_true rfl⟩ ⟨Nat.le_refl _, Nat.le_refl _⟩ (Nat.le_of_ble_eq_true rfl) (by decide +kernel) ?_ rfl
    exact mz_iret C E (by decide +kernel) (by unfold g_X9_ofProp; rw [if_neg h1, if_neg h2, if_pos h3]; try rfl) (rfl)
  by_cases h4 : w = 3
  · refine mz_tin (dflt := 80) (lo := 0) (hi := 3) (offs := #[29, 41, 50, 65]) (len := 29) (q := 3) (v := 3) (off := 65) (tgt := 76) C (by decide +kernel) h4 (by decide) (by decide) rfl (by decide) ?_
    refine mz_go FLX9 KLX9 C [(76, .aload_n 0), (77, .getfield 28), (80, .getfield 106), (83, .getfield 339), (86, .iload_n 1)] (by decide +kernel) (pc' := 87) (L' := [(0, .ref 0), (1, .int p), (2, .int w)]) (st' := [.int p, .ref 56]) rfl ?_
    refine mz_callV (As := [.int p]) (rest := []) C E' (f_Row_get l D cA ρ hI (r := 56) (a := 57) (n := 4) rfl rfl (by decide) M p) hy_X6_get wl_X9_174 rfl rfl rfl ⟨Nat.le_of_ble_eq_true rfl, Nat.le_of_ble_eq_true rfl⟩ ⟨Nat.le_refl _, Nat.le_refl _⟩ (Nat.le_of_ble_eq_true rfl) (by decide +kernel) ?_ rfl
    exact mz_iret C E (by decide +kernel) (by unfold g_X9_ofProp; rw [if_neg h1, if_neg h2, if_neg h3, if_pos h4]; try rfl) (rfl)
  refine mz_tout (dflt := 80) (lo := 0) (hi := 3) (offs := #[29, 41, 50, 65]) (len := 29) (tgt := 91) C (by decide +kernel) (by have := mz_ne_toInt (v := 0) (by decide) h1; have := mz_ne_toInt (v := 1) (by decide) h2; have := mz_ne_toInt (v := 2) (by decide) h3; have := mz_ne_toInt (v := 3) (by decide) h4; omega) (by decide) ?_
  refine mz_go FLX9 KLX9 C [(91, .aload_n 0), (92, .getfield 28), (95, .getfield 106), (98, .getfield 212), (101, .iload_n 1)] (by decide +kernel) (pc' := 102) (L' := [(0, .ref 0), (1, .int p), (2, .int w)]) (st' := [.int p, .ref 58]) rfl ?_
  refine mz_callV (As := [.int p]) (rest := []) C E' (f_Row_get l D cA ρ hI (r := 58) (a := 59) (n := 4) rfl rfl (by decide) M p) hy_X6_get wl_X9_174 rfl rfl rfl ⟨Nat.le_of_ble_eq_true rfl, Nat.le_of_ble_eq_true rfl⟩ ⟨Nat.le_refl _, Nat.le_refl _⟩ (Nat.le_of_ble_eq_true rfl) (by decide +kernel) ?_ rfl
  exact mz_iret C E (by decide +kernel) (by unfold g_X9_ofProp; rw [if_neg h1, if_neg h2, if_neg h3, if_neg h4]; try rfl) (rfl)
def g_X9_seen (M : mz_Mem) (g : Int32) (k : Int32) : Int32 := (mz_gg 144 (M 73 0) (M 75) g k)
set_option maxHeartbeats 4000000 in
theorem f_X9_seen (l : Launch) (D : va_G) (cA : ClassId) (ρ : Nat → Nat) (hI : mz_I ρ mz_lay2) (M : mz_Mem) (g : Int32) (k : Int32) (v1 : ¬ g < 0) (v2 : g < (M 60 0)) (v3 : ¬ k < 0) (v4 : k < (M 15 2)) : mz_M l D vwCl cA ρ mz_lay2 yX9_seen cX9_seen 3 (some .int) 2 43 [.ref 0, .int g, .int k] M (some (.int (g_X9_seen M g k))) M := by
  refine mz_in0 (by decide +kernel) (Nat.le_of_ble_eq_true rfl) (fun Γ C E => ?_)
  have E' := (⟨_, _, _, E⟩ : ∃ Qc mc ms, mz_E Γ Qc mc ms (mz_A ρ mz_lay2))
  refine mz_go FLX9 KLX9 C [(0, .aload_n 0), (1, .iload_n 1)] (by decide +kernel) (pc' := 2) (L' := [(0, .ref 0), (1, .int g), (2, .int k)]) (st' := [.int g, .ref 0]) rfl ?_
  refine mz_callV (As := [.int g]) (rest := []) C E' (f_X9_checkGuest l D cA ρ hI M g v1 v2) hy_X9_checkGuest wl_X9_162 rfl rfl rfl ⟨Nat.le_of_ble_eq_true rfl, Nat.le_of_ble_eq_true rfl⟩ ⟨Nat.le_refl _, Nat.le_refl _⟩ (Nat.le_of_ble_eq_true rfl) (by decide +kernel) ?_ rfl
  refine mz_go FLX9 KLX9 C [(5, .aload_n 0), (6, .iload_n 2)] (by decide +kernel) (pc' := 7) (L' := [(0, .ref 0), (1, .int g), (2, .int k)]) (st' := [.int k, .ref 0]) rfl ?_
  refine mz_callV (As := [.int k]) (rest := []) C E' (f_X9_checkScene l D cA ρ hI M k v3 v4) hy_X9_checkScene wl_X9_289 rfl rfl rfl ⟨Nat.le_of_ble_eq_true rfl, Nat.le_of_ble_eq_true rfl⟩ ⟨Nat.le_refl _, Nat.le_refl _⟩ (Nat.le_of_ble_eq_true rfl) (by decide +kernel) ?_ rfl
  refine mz_go FLX9 KLX9 C [(10, .aload_n 0), (11, .getfield 28), (14, .getfield 146), (17, .getfield 342), (20, .iload_n 1), (21, .iload_n 2)] (by decide +kernel) (pc' := 22) (L' := [(0, .ref 0), (1, .int g), (2, .int k)]) (st' := [.int k, .int g, .ref 73]) rfl ?_
  refine mz_callV (As := [.int g, .int k]) (rest := []) C E' (f_Grid_get l D cA ρ hI (g := 73) (r := 74) (a := 75) (n := 144) rfl rfl rfl (by decide) M g k) hy_X3_get wl_X9_68 rfl rfl rfl ⟨Nat.le_of_ble_eq_true rfl, Nat.le_of_ble_eq_true rfl⟩ ⟨Nat.le_refl _, Nat.le_refl _⟩ (Nat.le_of_ble_eq_true rfl) (by decide +kernel) ?_ rfl
  exact mz_iret C E (by decide +kernel) (rfl) (rfl)
def g_X9_many (M : mz_Mem) (w : Int32) : Int32 := if w = 0 then (M 30 7) else if w = 1 then (M 1 0) else if w = 2 then (M 1 1) else if w = 3 then (M 15 0) else if w = 4 then (M 15 2) else if w = 5 then (M 15 1) else if w = 6 then (M 60 0) else if w = 7 then (g_X8_countRunning M) else if w = 8 then (mz_sum 12 (M 48)) else if w = 9 then (mz_sum 12 (M 50)) else if w = 10 then (M 40 6) else if w = 11 then ((M 15 2) - (mz_bitc (g_X0_knownByAny M))) else (mz_sum 12 (M 72))
set_option maxHeartbeats 4000000 in
theorem f_X9_many (l : Launch) (D : va_G) (cA : ClassId) (ρ : Nat → Nat) (hI : mz_I ρ mz_lay2) (M : mz_Mem) (w : Int32) (v1 : ¬ w < 0) (v2 : w ≤ 12) : mz_M l D vwCl cA ρ mz_lay2 yX9_many cX9_many 2 (some .int) 2 43 [.ref 0, .int w] M (some (.int (g_X9_many M w))) M := by
  refine mz_in0 (by decide +kernel) (Nat.le_of_ble_eq_true rfl) (fun Γ C E => ?_)
  have E' := (⟨_, _, _, E⟩ : ∃ Qc mc ms, mz_E Γ Qc mc ms (mz_A ρ mz_lay2))
  refine mz_go FLX9 KLX9 C [(0, .iload_n 1), (1, .bipush 12)] (by decide +kernel) (pc' := 3) (L' := [(0, .ref 0), (1, .int w)]) (st' := [.int 12, .int w]) rfl ?_
  refine mz_callS (As := [.int w, .int 12]) (rest := []) C E' (f_X9_checkWhat l D cA ρ hI M w 12 v1 v2) hs_X9_checkWhat wl_X9_252 rfl ⟨Nat.le_of_ble_eq_true rfl, Nat.le_of_ble_eq_true rfl⟩ ⟨Nat.le_refl _, Nat.le_refl _⟩ (Nat.le_of_ble_eq_true rfl) (by decide +kernel) ?_ rfl
  refine mz_go FLX9 KLX9 C [(6, .iload_n 1)] (by decide +kernel) (pc' := 7) (L' := [(0, .ref 0), (1, .int w)]) (st' := [.int w]) rfl ?_
  by_cases h1 : w = 0
  · refine mz_tin (dflt := 192) (lo := 0) (hi := 11) (offs := #[61, 69, 77, 85, 93, 101, 109, 120, 131, 145, 159, 170]) (len := 61) (q := 0) (v := 0) (off := 61) (tgt := 68) C (by decide +kernel) h1 (by decide) (by decide) rfl (by decide) ?_
    refine mz_go FLX9 KLX9 C [(68, .aload_n 0), (69, .getfield 28), (72, .getfield 126)] (by decide +kernel) (pc' := 75) (L' := [(0, .ref 0), (1, .int w)]) (st' := [.int (M 30 7)]) rfl ?_
    exact mz_iret C E (by decide +kernel) (by unfold g_X9_many; rw [if_pos h1]; try rfl) (rfl)
  by_cases h2 : w = 1
  · refine mz_tin (dflt := 192) (lo := 0) (hi := 11) (offs := #[61, 69, 77, 85, 93, 101, 109, 120, 131, 145, 159, 170]) (len := 61) (q := 1) (v := 1) (off := 69) (tgt := 76) C (by decide +kernel) h2 (by decide) (by decide) rfl (by decide) ?_
    refine mz_go FLX9 KLX9 C [(76, .aload_n 0), (77, .getfield 10), (80, .getfield 42)] (by decide +kernel) (pc' := 83) (L' := [(0, .ref 0), (1, .int w)]) (st' := [.int (M 1 0)]) rfl ?_
    exact mz_iret C E (by decide +kernel) (by unfold g_X9_many; rw [if_neg h1, if_pos h2]; try rfl) (rfl)
  by_cases h3 : w = 2
  · refine mz_tin (dflt := 192) (lo := 0) (hi := 11) (offs := #[61, 69, 77, 85, 93, 101, 109, 120, 131, 145, 159, 170]) (len := 61) (q := 2) (v := 2) (off := 77) (tgt := 84) C (by decide +kernel) h3 (by decide) (by decide) rfl (by decide) ?_
    refine mz_go FLX9 KLX9 C [(84, .aload_n 0), (85, .getfield 10), (88, .getfield 61)] (by decide +kernel) (pc' := 91) (L' := [(0, .ref 0), (1, .int w)]) (st' := [.int (M 1 1)]) rfl ?_
    exact mz_iret C E (by decide +kernel) (by unfold g_X9_many; rw [if_neg h1, if_neg h2, if_pos h3]; try rfl) (rfl)
  by_cases h4 : w = 3
  · refine mz_tin (dflt := 192) (lo := 0) (hi := 11) (offs := #[61, 69, 77, 85, 93, 101, 109, 120, 131, 145, 159, 170]) (len := 61) (q := 3) (v := 3) (off := 85) (tgt := 92) C (by decide +kernel) h4 (by decide) (by decide) rfl (by decide) ?_
    refine mz_go FLX9 KLX9 C [(92, .aload_n 0), (93, .getfield 19), (96, .getfield 80)] (by decide +kernel) (pc' := 99) (L' := [(0, .ref 0), (1, .int w)]) (st' := [.int (M 15 0)]) rfl ?_
    exact mz_iret C E (by decide +kernel) (by unfold g_X9_many; rw [if_neg h1, if_neg h2, if_neg h3, if_pos h4]; try rfl) (rfl)
  by_cases h5 : w = 4
  · refine mz_tin (dflt := 192) (lo := 0) (hi := 11) (offs := #[61, 69, 77, 85, 93, 101, 109, 120, 131, 145, 159, 170]) (len := 61) (q := 4) (v := 4) (off := 93) (tgt := 100) C (by decide +kernel) h5 (by decide) (by decide) rfl (by decide) ?_
    refine mz_go FLX9 KLX9 C [(100, .aload_n 0), (101, .getfield 19), (104, .getfield 129)] (by decide +kernel) (pc' := 107) (L' := [(0, .ref 0), (1, .int w)]) (st' := [.int (M 15 2)]) rfl ?_
    exact mz_iret C E (by decide +kernel) (by unfold g_X9_many; rw [if_neg h1, if_neg h2, if_neg h3, if_neg h4, if_pos h5]; try rfl) (rfl)
  by_cases h6 : w = 5
  · refine mz_tin (dflt := 192) (lo := 0) (hi := 11) (offs := #[61, 69, 77, 85, 93, 101, 109, 120, 131, 145, 159, 170]) (len := 61) (q := 5) (v := 5) (off := 101) (tgt := 108) C (by decide +kernel) h6 (by decide) (by decide) rfl (by decide) ?_
    refine mz_go FLX9 KLX9 C [(108, .aload_n 0), (109, .getfield 19), (112, .getfield 98)] (by decide +kernel) (pc' := 115) (L' := [(0, .ref 0), (1, .int w)]) (st' := [.int (M 15 1)]) rfl ?_
    exact mz_iret C E (by decide +kernel) (by unfold g_X9_many; rw [if_neg h1, if_neg h2, if_neg h3, if_neg h4, if_neg h5, if_pos h6]; try rfl) (rfl)
  by_cases h7 : w = 6
  · refine mz_tin (dflt := 192) (lo := 0) (hi := 11) (offs := #[61, 69, 77, 85, 93, 101, 109, 120, 131, 145, 159, 170]) (len := 61) (q := 6) (v := 6) (off := 109) (tgt := 116) C (by decide +kernel) h7 (by decide) (by decide) rfl (by decide) ?_
    refine mz_go FLX9 KLX9 C [(116, .aload_n 0), (117, .getfield 28), (120, .getfield 146), (123, .getfield 150)] (by decide +kernel) (pc' := 126) (L' := [(0, .ref 0), (1, .int w)]) (st' := [.int (M 60 0)]) rfl ?_
    exact mz_iret C E (by decide +kernel) (by unfold g_X9_many; rw [if_neg h1, if_neg h2, if_neg h3, if_neg h4, if_neg h5, if_neg h6, if_pos h7]; try rfl) (rfl)
  by_cases h8 : w = 7
  · refine mz_tin (dflt := 192) (lo := 0) (hi := 11) (offs := #[61, 69, 77, 85, 93, 101, 109, 120, 131, 145, 159, 170]) (len := 61) (q := 7) (v := 7) (off := 120) (tgt := 127) C (by decide +kernel) h8 (by decide) (by decide) rfl (by decide) ?_
    refine mz_go FLX9 KLX9 C [(127, .aload_n 0), (128, .getfield 28), (131, .getfield 187)] (by decide +kernel) (pc' := 134) (L' := [(0, .ref 0), (1, .int w)]) (st' := [.ref 40]) rfl ?_
    refine mz_callV (As := []) (rest := []) C E' (mz_liftAR hI (f_X8_countRunning l D cA ρ (mz_I1 hI) M )) hy_X8_countRunning wl_X9_345 rfl rfl rfl ⟨Nat.le_of_ble_eq_true rfl, Nat.le_of_ble_eq_true rfl⟩ ⟨Nat.le_refl _, Nat.le_refl _⟩ (Nat.le_of_ble_eq_true rfl) (by decide +kernel) ?_ rfl
    exact mz_iret C E (by decide +kernel) (by unfold g_X9_many; rw [if_neg h1, if_neg h2, if_neg h3, if_neg h4, if_neg h5, if_neg h6, if_neg h7, if_pos h8]; try rfl) (rfl)
  by_cases h9 : w = 8
  · refine mz_tin (dflt := 192) (lo := 0) (hi := 11) (offs := #[61, 69, 77, 85, 93, 101, 109, 120, 131, 145, 159, 170]) (len := 61) (q := 8) (v := 8) (off := 131) (tgt := 138) C (by decide +kernel) h9 (by decide) (by decide) rfl (by decide) ?_
    refine mz_go FLX9 KLX9 C [(138, .aload_n 0), (139, .getfield 28), (142, .getfield 187), (145, .getfield 191)] (by decide +kernel) (pc' := 148) (L' := [(0, .ref 0), (1, .int w)]) (st' := [.ref 47]) rfl ?_
    refine mz_callV (As := []) (rest := []) C E' (f_Row_sum l D cA ρ hI (r := 47) (a := 48) (n := 12) rfl rfl (by decide) M ) hy_X6_sum wl_X9_196 rfl rfl rfl ⟨Nat.le_of_ble_eq_true rfl, Nat.le_of_ble_eq_true rfl⟩ ⟨Nat.le_refl _, Nat.le_refl _⟩ (Nat.le_of_ble_eq_true rfl) (by decide +kernel) ?_ rfl
    exact mz_iret C E (by decide +kernel) (by unfold g_X9_many; rw [if_neg h1, if_neg h2, if_neg h3, if_neg h4, if_neg h5, if_neg h6, if_neg h7, if_neg h8, if_pos h9]; try rfl) (rfl)
  by_cases h10 : w = 9
  · refine mz_tin (dflt := 192) (lo := 0) (hi := 11) (offs := #[61, 69, 77, 85, 93, 101, 109, 120, 131, 145, 159, 170]) (len := 61) (q := 9) (v := 9) (off := 145) (tgt := 152) C (by decide +kernel) h10 (by decide) (by decide) rfl (by decide) ?_
    refine mz_go FLX9 KLX9 C [(152, .aload_n 0), (153, .getfield 28), (156, .getfield 187), (159, .getfield 314)] (by decide +kernel) (pc' := 162) (L' := [(0, .ref 0), (1, .int w)]) (st' := [.ref 49]) rfl ?_
    refine mz_callV (As := []) (rest := []) C E' (f_Row_sum l D cA ρ hI (r := 49) (a := 50) (n := 12) rfl rfl (by decide) M ) hy_X6_sum wl_X9_196 rfl rfl rfl ⟨Nat.le_of_ble_eq_true rfl, Nat.le_of_ble_eq_true rfl⟩ ⟨Nat.le_refl _, Nat.le_refl _⟩ (Nat.le_of_ble_eq_true rfl) (by decide +kernel) ?_ rfl
    exact mz_iret C E (by decide +kernel) (by unfold g_X9_many; rw [if_neg h1, if_neg h2, if_neg h3, if_neg h4, if_neg h5, if_neg h6, if_neg h7, if_neg h8, if_neg h9, if_pos h10]; try rfl) (rfl)
  by_cases h11 : w = 10
  · refine mz_tin (dflt := 192) (lo := 0) (hi := 11) (offs := #[61, 69, 77, 85, 93, 101, 109, 120, 131, 145, 159, 170]) (len := 61) (q := 10) (v := 10) (off := 159) (tgt := 166) C (by decide +kernel) h11 (by decide) (by decide) rfl (by decide) ?_
    refine mz_go FLX9 KLX9 C [(166, .aload_n 0), (167, .getfield 28), (170, .getfield 187), (173, .getfield 348)] (by decide +kernel) (pc' := 176) (L' := [(0, .ref 0), (1, .int w)]) (st' := [.int (M 40 6)]) rfl ?_
    exact mz_iret C E (by decide +kernel) (by unfold g_X9_many; rw [if_neg h1, if_neg h2, if_neg h3, if_neg h4, if_neg h5, if_neg h6, if_neg h7, if_neg h8, if_neg h9, if_neg h10, if_pos h11]; try rfl) (rfl)
  by_cases h12 : w = 11
  · refine mz_tin (dflt := 192) (lo := 0) (hi := 11) (offs := #[61, 69, 77, 85, 93, 101, 109, 120, 131, 145, 159, 170]) (len := 61) (q := 11) (v := 11) (off := 170) (tgt := 177) C (by decide +kernel) h12 (by decide) (by decide) rfl (by decide) ?_
    refine mz_go FLX9 KLX9 C [(177, .aload_n 0), (178, .getfield 19), (181, .getfield 129), (184, .aload_n 0), (185, .getfield 28), (188, .getfield 146)] (by decide +kernel) (pc' := 191) (L' := [(0, .ref 0), (1, .int w)]) (st' := [.ref 60, .int (M 15 2)]) rfl ?_
    refine mz_callV (As := []) (rest := [.int (M 15 2)]) C E' (mz_liftAR hI (f_X0_knownByAny l D cA ρ (mz_I1 hI) M )) hy_X0_knownByAny wl_X9_351 rfl rfl rfl ⟨Nat.le_of_ble_eq_true rfl, Nat.le_of_ble_eq_true rfl⟩ ⟨Nat.le_refl _, Nat.le_refl _⟩ (Nat.le_of_ble_eq_true rfl) (by decide +kernel) ?_ rfl
    refine mz_callS (As := [.int (g_X0_knownByAny M)]) (rest := [.int (M 15 2)]) C E' (f_J6_bitCount_0f7a4 l D cA ρ hI M (g_X0_knownByAny M)) hs_J6_bitCount_0f7a4 wl_X9_215 rfl ⟨Nat.le_of_ble_eq_true rfl, Nat.le_of_ble_eq_true rfl⟩ ⟨Nat.le_refl _, Nat.le_refl _⟩ (Nat.le_of_ble_eq_true rfl) (by decide +kernel) ?_ rfl
    refine mz_go FLX9 KLX9 C [(197, .isub)] (by decide +kernel) (pc' := 198) (L' := [(0, .ref 0), (1, .int w)]) (st' := [.int ((M 15 2) - (mz_bitc (g_X0_knownByAny M)))]) rfl ?_
    exact mz_iret C E (by decide +kernel) (by unfold g_X9_many; rw [if_neg h1, if_neg h2, if_neg h3, if_neg h4, if_neg h5, if_neg h6, if_neg h7, if_neg h8, if_neg h9, if_neg h10, if_neg h11, if_pos h12]; try rfl) (rfl)
  refine mz_tout (dflt := 192) (lo := 0) (hi := 11) (offs := #[61, 69, 77, 85, 93, 101, 109, 120, 131, 145, 159, 170]) (len := 61) (tgt := 199) C (by decide +kernel) (by have := mz_ne_toInt (v := 0) (by decide) h1; have := mz_ne_toInt (v := 1) (by decide) h2; have := mz_ne_toInt (v := 2) (by decide) h3; have := mz_ne_toInt (v := 3) (by decide) h4; have := mz_ne_toInt (v := 4) (by decide) h5; have := mz_ne_toInt (v := 5) (by decide) h6; have := mz_ne_toInt (v := 6) (by decide) h7; have := mz_ne_toInt (v := 7) (by decide) h8; have := mz_ne_toInt (v := 8) (by decide) h9; have := mz_ne_toInt (v := 9) (by decide) h10; have := mz_ne_toInt (v := 10) (by decide) h11; have := mz_ne_toInt (v := 11) (by decide) h12; omega) (by decide) ?_
  refine mz_go FLX9 KLX9 C [(199, .aload_n 0), (200, .getfield 28), (203, .getfield 146), (206, .getfield 327)] (by decide +kernel) (pc' := 209) (L' := [(0, .ref 0), (1, .int w)]) (st' := [.ref 71]) rfl ?_
  refine mz_callV (As := []) (rest := []) C E' (f_Row_sum l D cA ρ hI (r := 71) (a := 72) (n := 12) rfl rfl (by decide) M ) hy_X6_sum wl_X9_196 rfl rfl rfl ⟨Nat.le_of_ble_eq_true rfl, Nat.le_of_ble_eq_true rfl⟩ ⟨Nat.le_refl _, Nat.le_refl _⟩ (Nat.le_of_ble_eq_true rfl) (by decide +kernel) ?_ rfl
  exact mz_iret C E (by decide +kernel) (by unfold g_X9_many; rw [if_neg h1, if_neg h2, if_neg h3, if_neg h4, if_neg h5, if_neg h6, if_neg h7, if_neg h8, if_neg h9, if_neg h10, if_neg h11, if_neg h12]; try rfl) (rfl)
def g_X9_doubles_1 (M : mz_Mem) (t : Int32) (i2 : Int32) (a3 : Int32) : Int32 := if i2 = t then a3 else if (g_X2_canDouble M t i2) = 0 then a3 else a3 ||| (1 <<< (i2 &&& 31))
def g_X9_doubles (M : mz_Mem) (t : Int32) : Int32 := (mz_fr (M 15 0) (g_X9_doubles_1 M t) 0)
set_option maxHeartbeats 4000000 in
theorem f_X9_doubles (l : Launch) (D : va_G) (cA : ClassId) (ρ : Nat → Nat) (hI : mz_I ρ mz_lay2) (M : mz_Mem) (t : Int32) (v1 : ¬ t < 0) (v2 : t < (M 15 0)) : mz_M l D vwCl cA ρ mz_lay2 yX9_doubles cX9_doubles 4 (some .int) 4 93 [.ref 0, .int t] M (some (.int (g_X9_doubles M t))) M := by
  refine mz_in0 (by decide +kernel) (Nat.le_of_ble_eq_true rfl) (fun Γ C E => ?_)
  have E' := (⟨_, _, _, E⟩ : ∃ Qc mc ms, mz_E Γ Qc mc ms (mz_A ρ mz_lay2))
  refine mz_go FLX9 KLX9 C [(0, .aload_n 0), (1, .iload_n 1)] (by decide +kernel) (pc' := 2) (L' := [(0, .ref 0), (1, .int t)]) (st' := [.int t, .ref 0]) rfl ?_
  refine mz_callV (As := [.int t]) (rest := []) C E' (f_X9_checkTrack l D cA ρ hI M t v1 v2) hy_X9_checkTrack wl_X9_165 rfl rfl rfl ⟨Nat.le_of_ble_eq_true rfl, Nat.le_of_ble_eq_true rfl⟩ ⟨Nat.le_refl _, Nat.le_refl _⟩ (Nat.le_of_ble_eq_true rfl) (by decide +kernel) ?_ rfl
  refine mz_go FLX9 KLX9 C [(5, .iconst 0), (6, .istore_n 2), (7, .iconst 0), (8, .istore_n 3)] (by decide +kernel) (pc' := 9) (L' := [(3, .int 0), (2, .int 0), (0, .ref 0), (1, .int t)]) (st' := []) rfl ?_
  refine mz_sub (L' := [(0, .ref 0), (1, .int t), (2, .int 0), (3, .int 0)]) (by simp) ?_
  refine mz_loop (M 15 0) (g_X9_doubles_1 M t) (fun (i : Int32) (a : Int32) => mz_W Γ ρ 4 0 0 (mz_H D vwCl cA ρ mz_lay2 M) 9 [(0, .ref 0), (1, .int t), (2, .int a), (3, .int i)] []) 0 (fun i2 a3 hi4 hx5 hb6 => ?_)
  refine mz_go FLX9 KLX9 C [(9, .iload_n 3), (10, .aload_n 0), (11, .getfield 19), (14, .getfield 80)] (by decide +kernel) (pc' := 17) (L' := [(0, .ref 0), (1, .int t), (2, .int a3), (3, .int i2)]) (st' := [.int (M 15 0), .int i2]) rfl ?_
  refine mz_ige (off := 32) (tgt := 49) C (by decide +kernel) (by decide) (fun h1 => ?_) (fun h1 => ?_)
  · have e10 := hx5 h1
    subst e10
    refine mz_sub (L' := [(0, .ref 0), (1, .int t), (2, .int (mz_fr (M 15 0) (g_X9_doubles_1 M t) 0))]) (by simp) ?_
    refine mz_go FLX9 KLX9 C [(49, .iload_n 2)] (by decide +kernel) (pc' := 50) (L' := [(0, .ref 0), (1, .int t), (2, .int (mz_fr (M 15 0) (g_X9_doubles_1 M t) 0))]) (st' := [.int (mz_fr (M 15 0) (g_X9_doubles_1 M t) 0)]) rfl ?_
    exact mz_iret C E (by decide +kernel) (rfl) (rfl)
  · refine mz_go FLX9 KLX9 C [(20, .iload_n 3), (21, .iload_n 1)] (by decide +kernel) (pc' := 22) (L' := [(0, .ref 0), (1, .int t), (2, .int a3), (3, .int i2)]) (st' := [.int t, .int i2]) rfl ?_
    refine mz_ieq (off := 21) (tgt := 43) C (by decide +kernel) (by decide) (fun h11 => ?_) (fun h11 => ?_)
    · refine mz_go FLX9 KLX9 C [(43, .iinc 3 1), (46, .goto (-37))] (by decide +kernel) (pc' := 9) (L' := [(3, .int (i2 + 1)), (0, .ref 0), (1, .int t), (2, .int a3)]) (st' := []) rfl ?_
      have hb12 := hb6 h1
      rw [show g_X9_doubles_1 M t i2 a3 = a3 from by unfold g_X9_doubles_1; rw [if_pos h11]] at hb12
      exact mz_sub (by simp) hb12
    · refine mz_go FLX9 KLX9 C [(25, .aload_n 0), (26, .getfield 28), (29, .iload_n 1), (30, .iload_n 3)] (by decide +kernel) (pc' := 31) (L' := [(0, .ref 0), (1, .int t), (2, .int a3), (3, .int i2)]) (st' := [.int i2, .int t, .ref 30]) rfl ?_
      refine mz_callV (As := [.int t, .int i2]) (rest := []) C E' (mz_liftAR hI (f_X2_canDouble l D cA ρ (mz_I1 hI) M t i2)) hy_X2_canDouble wl_X9_230 rfl rfl rfl ⟨Nat.le_of_ble_eq_true rfl, Nat.le_of_ble_eq_true rfl⟩ ⟨Nat.le_refl _, Nat.le_refl _⟩ (Nat.le_of_ble_eq_true rfl) (by decide +kernel) ?_ rfl
      refine mz_zeq (off := 9) (tgt := 43) C (by decide +kernel) (by decide) (fun h13 => ?_) (fun h13 => ?_)
      · refine mz_go FLX9 KLX9 C [(43, .iinc 3 1), (46, .goto (-37))] (by decide +kernel) (pc' := 9) (L' := [(3, .int (i2 + 1)), (0, .ref 0), (1, .int t), (2, .int a3)]) (st' := []) rfl ?_
        have hb14 := hb6 h1
        rw [show g_X9_doubles_1 M t i2 a3 = a3 from by unfold g_X9_doubles_1; rw [if_neg h11, if_pos h13]] at hb14
        exact mz_sub (by simp) hb14
      · refine mz_go FLX9 KLX9 C [(37, .iload_n 2), (38, .iconst 1), (39, .iload_n 3), (40, .ishl), (41, .ior), (42, .istore_n 2), (43, .iinc 3 1), (46, .goto (-37))] (by decide +kernel) (pc' := 9) (L' := [(3, .int (i2 + 1)), (2, .int (a3 ||| (1 <<< (i2 &&& 31)))), (0, .ref 0), (1, .int t)]) (st' := []) rfl ?_
        have hb15 := hb6 h1
        rw [show g_X9_doubles_1 M t i2 a3 = a3 ||| (1 <<< (i2 &&& 31)) from by unfold g_X9_doubles_1; rw [if_neg h11, if_neg h13]] at hb15
        exact mz_sub (by simp) hb15
end
section
def g_X9_foldRooms_2 (M : mz_Mem) (d : Int64) (i2 : Int32) (a3 : Int64) (i12 : Int32) (a13 : Int64) : Int64 := g_X9_fold M a13 ((g_X9_ofRoom M i2 i12).toInt64)
def g_X9_foldRooms_1 (M : mz_Mem) (d : Int64) (i2 : Int32) (a3 : Int64) : Int64 := g_X9_fold M (g_X9_fold M (mz_fr 5 (g_X9_foldRooms_2 M d i2 a3) a3) ((g_X9_way M i2 0 0).toInt64)) ((g_X9_way M i2 0 1).toInt64)
def g_X9_foldRooms (M : mz_Mem) (d : Int64) : Int64 := (mz_fr (M 1 0) (g_X9_foldRooms_1 M d) d)
set_option maxHeartbeats 4000000 in
theorem f_X9_foldRooms (l : Launch) (D : va_G) (cA : ClassId) (ρ : Nat → Nat) (hI : mz_I ρ mz_lay2) (M : mz_Mem) (d : Int64) : mz_M l D vwCl cA ρ mz_lay2 yX9_foldRooms cX9_foldRooms 7 (some .long) 3 66 [.ref 0, .long d] M (some (.long (g_X9_foldRooms M d))) M := by
  refine mz_in0 (by decide +kernel) (Nat.le_of_ble_eq_true rfl) (fun Γ C E => ?_)
  have E' := (⟨_, _, _, E⟩ : ∃ Qc mc ms, mz_E Γ Qc mc ms (mz_A ρ mz_lay2))
  refine mz_go FLX9 KLX9 C [(0, .lload_n 1), (1, .lstore_n 3), (2, .iconst 0), (3, .istore 5)] (by decide +kernel) (pc' := 5) (L' := [(5, .int 0), (3, .long d), (0, .ref 0), (1, .long d)]) (st' := []) rfl ?_
  refine mz_sub (L' := [(0, .ref 0), (1, .long d), (3, .long d), (5, .int 0)]) (by simp) ?_
  refine mz_loop (M 1 0) (g_X9_foldRooms_1 M d) (fun (i : Int32) (a : Int64) => mz_W Γ ρ 7 0 0 (mz_H D vwCl cA ρ mz_lay2 M) 5 [(0, .ref 0), (1, .long d), (3, .long a), (5, .int i)] []) d (fun i2 a3 hi4 hx5 hb6 => ?_)
  refine mz_go FLX9 KLX9 C [(5, .iload 5), (7, .aload_n 0), (8, .getfield 10), (11, .getfield 42)] (by decide +kernel) (pc' := 14) (L' := [(0, .ref 0), (1, .long d), (3, .long a3), (5, .int i2)]) (st' := [.int (M 1 0), .int i2]) rfl ?_
  refine mz_ige (off := 66) (tgt := 80) C (by decide +kernel) (by decide) (fun h1 => ?_) (fun h1 => ?_)
  · have e10 := hx5 h1
    subst e10
    refine mz_sub (L' := [(0, .ref 0), (1, .long d), (3, .long (mz_fr (M 1 0) (g_X9_foldRooms_1 M d) d))]) (by simp) ?_
    refine mz_go FLX9 KLX9 C [(80, .lload_n 3)] (by decide +kernel) (pc' := 81) (L' := [(0, .ref 0), (1, .long d), (3, .long (mz_fr (M 1 0) (g_X9_foldRooms_1 M d) d))]) (st' := [.long (mz_fr (M 1 0) (g_X9_foldRooms_1 M d) d)]) rfl ?_
    exact mz_lret C E (by decide +kernel) (rfl) (rfl)
  · refine mz_go FLX9 KLX9 C [(17, .iconst 0), (18, .istore 6)] (by decide +kernel) (pc' := 20) (L' := [(6, .int 0), (0, .ref 0), (1, .long d), (3, .long a3), (5, .int i2)]) (st' := []) rfl ?_
    refine mz_sub (L' := [(0, .ref 0), (1, .long d), (3, .long a3), (5, .int i2), (6, .int 0)]) (by simp) ?_
    refine mz_loop 5 (g_X9_foldRooms_2 M d i2 a3) (fun (i : Int32) (a : Int64) => mz_W Γ ρ 7 0 0 (mz_H D vwCl cA ρ mz_lay2 M) 20 [(0, .ref 0), (1, .long d), (3, .long a), (5, .int i2), (6, .int i)] []) a3 (fun i12 a13 hi14 hx15 hb16 => ?_)
    refine mz_go FLX9 KLX9 C [(20, .iload 6), (22, .iconst 4)] (by decide +kernel) (pc' := 23) (L' := [(0, .ref 0), (1, .long d), (3, .long a13), (5, .int i2), (6, .int i12)]) (st' := [.int 4, .int i12]) rfl ?_
    refine mz_igt (off := 23) (tgt := 46) C (by decide +kernel) (by decide) (fun h11 => ?_) (fun h11 => ?_)
    · have e20 := hx15 ((mz_ltle (c := 4) (d := 5) (by decide)).mp h11)
      subst e20
      refine mz_sub (L' := [(0, .ref 0), (1, .long d), (3, .long (mz_fr 5 (g_X9_foldRooms_2 M d i2 a3) a3)), (5, .int i2)]) (by simp) ?_
      refine mz_go FLX9 KLX9 C [(46, .lload_n 3), (47, .aload_n 0), (48, .iload 5), (50, .iconst 0), (51, .iconst 0)] (by decide +kernel) (pc' := 52) (L' := [(0, .ref 0), (1, .long d), (3, .long (mz_fr 5 (g_X9_foldRooms_2 M d i2 a3) a3)), (5, .int i2)]) (st' := [.int 0, .int 0, .int i2, .ref 0, .long (mz_fr 5 (g_X9_foldRooms_2 M d i2 a3) a3)]) rfl ?_
      refine mz_callV (As := [.int i2, .int 0, .int 0]) (rest := [.long (mz_fr 5 (g_X9_foldRooms_2 M d i2 a3) a3)]) C E' (f_X9_way l D cA ρ hI M i2 0 0 (Int32.not_lt.mpr hi4) (Int32.not_le.mp h1) (by decide) (mz_lt0 hi4 h1) (by decide) (by decide)) hy_X9_way wl_X9_403 rfl rfl rfl ⟨Nat.le_of_ble_eq_true rfl, Nat.le_of_ble_eq_true rfl⟩ ⟨Nat.le_refl _, Nat.le_refl _⟩ (Nat.le_of_ble_eq_true rfl) (by decide +kernel) ?_ rfl
      refine mz_go FLX9 KLX9 C [(55, .i2l)] (by decide +kernel) (pc' := 56) (L' := [(0, .ref 0), (1, .long d), (3, .long (mz_fr 5 (g_X9_foldRooms_2 M d i2 a3) a3)), (5, .int i2)]) (st' := [.long ((g_X9_way M i2 0 0).toInt64), .long (mz_fr 5 (g_X9_foldRooms_2 M d i2 a3) a3)]) rfl ?_
      refine mz_callS (As := [.long (mz_fr 5 (g_X9_foldRooms_2 M d i2 a3) a3), .long ((g_X9_way M i2 0 0).toInt64)]) (rest := []) C E' (f_X9_fold l D cA ρ hI M (mz_fr 5 (g_X9_foldRooms_2 M d i2 a3) a3) ((g_X9_way M i2 0 0).toInt64)) hs_X9_fold wl_X9_378 rfl ⟨Nat.le_of_ble_eq_true rfl, Nat.le_of_ble_eq_true rfl⟩ ⟨Nat.le_refl _, Nat.le_refl _⟩ (Nat.le_of_ble_eq_true rfl) (by decide +kernel) ?_ rfl
      refine mz_go FLX9 KLX9 C [(59, .lstore_n 3), (60, .lload_n 3), (61, .aload_n 0), (62, .iload 5), (64, .iconst 0), (65, .iconst 1)] (by decide +kernel) (pc' := 66) (L' := [(3, .long (g_X9_fold M (mz_fr 5 (g_X9_foldRooms_2 M d i2 a3) a3) ((g_X9_way M i2 0 0).toInt64))), (0, .ref 0), (1, .long d), (5, .int i2)]) (st' := [.int 1, .int 0, .int i2, .ref 0, .long (g_X9_fold M (mz_fr 5 (g_X9_foldRooms_2 M d i2 a3) a3) ((g_X9_way M i2 0 0).toInt64))]) rfl ?_
      refine mz_callV (As := [.int i2, .int 0, .int 1]) (rest := [.long (g_X9_fold M (mz_fr 5 (g_X9_foldRooms_2 M d i2 a3) a3) ((g_X9_way M i2 0 0).toInt64))]) C E' (f_X9_way l D cA ρ hI M i2 0 1 (Int32.not_lt.mpr hi4) (Int32.not_le.mp h1) (by decide) (mz_lt0 hi4 h1) (by decide) (by decide)) hy_X9_way wl_X9_403 rfl rfl rfl ⟨Nat.le_of_ble_eq_true rfl, Nat.le_of_ble_eq_true rfl⟩ ⟨Nat.le_refl _, Nat.le_refl _⟩ (Nat.le_of_ble_eq_true rfl) (by decide +kernel) ?_ rfl
      refine mz_go FLX9 KLX9 C [(69, .i2l)] (by decide +kernel) (pc' := 70) (L' := [(3, .long (g_X9_fold M (mz_fr 5 (g_X9_foldRooms_2 M d i2 a3) a3) ((g_X9_way M i2 0 0).toInt64))), (0, .ref 0), (1, .long d), (5, .int i2)]) (st' := [.long ((g_X9_way M i2 0 1).toInt64), .long (g_X9_fold M (mz_fr 5 (g_X9_foldRooms_2 M d i2 a3) a3) ((g_X9_way M i2 0 0).toInt64))]) rfl ?_
      refine mz_callS (As := [.long (g_X9_fold M (mz_fr 5 (g_X9_foldRooms_2 M d i2 a3) a3) ((g_X9_way M i2 0 0).toInt64)), .long ((g_X9_way M i2 0 1).toInt64)]) (rest := []) C E' (f_X9_fold l D cA ρ hI M (g_X9_fold M (mz_fr 5 (g_X9_foldRooms_2 M d i2 a3) a3) ((g_X9_way M i2 0 0).toInt64)) ((g_X9_way M i2 0 1).toInt64)) hs_X9_fold wl_X9_378 rfl ⟨Nat.le_of_ble_eq_true rfl, Nat.le_of_ble_eq_true rfl⟩ ⟨Nat.le_refl _, Nat.le_refl _⟩ (Nat.le_of_ble_eq_true rfl) (by decide +kernel) ?_ rfl
      refine mz_go FLX9 KLX9 C [(73, .lstore_n 3), (74, .iinc 5 1), (77, .goto (-72))] (by decide +kernel) (pc' := 5) (L' := [(5, .int (i2 + 1)), (3, .long (g_X9_fold M (g_X9_fold M (mz_fr 5 (g_X9_foldRooms_2 M d i2 a3) a3) ((g_X9_way M i2 0 0).toInt64)) ((g_X9_way M i2 0 1).toInt64))), (0, .ref 0), (1, .long d)]) (st' := []) rfl ?_
      have hb21 := hb6 h1
      rw [show g_X9_foldRooms_1 M d i2 a3 = g_X9_fold M (g_X9_fold M (mz_fr 5 (g_X9_foldRooms_2 M d i2 a3) a3) ((g_X9_way M i2 0 0).toInt64)) ((g_X9_way M i2 0 1).toInt64) from rfl] at hb21
      exact mz_sub (by simp) hb21
    · refine mz_go FLX9 KLX9 C [(26, .lload_n 3), (27, .aload_n 0), (28, .iload 5), (30, .iload 6)] (by decide +kernel) (pc' := 32) (L' := [(0, .ref 0), (1, .long d), (3, .long a13), (5, .int i2), (6, .int i12)]) (st' := [.int i12, .int i2, .ref 0, .long a13]) rfl ?_
      refine mz_callV (As := [.int i2, .int i12]) (rest := [.long a13]) C E' (f_X9_ofRoom l D cA ρ hI M i2 i12 (Int32.not_lt.mpr hi4) (Int32.not_le.mp h1) (Int32.not_lt.mpr hi14) (mz_lec (c := 4) (d := 5) (by decide) (fun z => h11 ((mz_ltle (c := 4) (d := 5) (by decide)).mpr z)))) hy_X9_ofRoom wl_X9_400 rfl rfl rfl ⟨Nat.le_of_ble_eq_true rfl, Nat.le_of_ble_eq_true rfl⟩ ⟨Nat.le_refl _, Nat.le_refl _⟩ (Nat.le_of_ble_eq_true rfl) (by decide +kernel) ?_ rfl
      refine mz_go FLX9 KLX9 C [(35, .i2l)] (by decide +kernel) (pc' := 36) (L' := [(0, .ref 0), (1, .long d), (3, .long a13), (5, .int i2), (6, .int i12)]) (st' := [.long ((g_X9_ofRoom M i2 i12).toInt64), .long a13]) rfl ?_
      refine mz_callS (As := [.long a13, .long ((g_X9_ofRoom M i2 i12).toInt64)]) (rest := []) C E' (f_X9_fold l D cA ρ hI M a13 ((g_X9_ofRoom M i2 i12).toInt64)) hs_X9_fold wl_X9_378 rfl ⟨Nat.le_of_ble_eq_true rfl, Nat.le_of_ble_eq_true rfl⟩ ⟨Nat.le_refl _, Nat.le_refl _⟩ (Nat.le_of_ble_eq_true rfl) (by decide +kernel) ?_ rfl
      refine mz_go FLX9 KLX9 C [(39, .lstore_n 3), (40, .iinc 6 1), (43, .goto (-23))] (by decide +kernel) (pc' := 20) (L' := [(6, .int (i12 + 1)), (3, .long (g_X9_fold M a13 ((g_X9_ofRoom M i2 i12).toInt64))), (0, .ref 0), (1, .long d), (5, .int i2)]) (st' := []) rfl ?_
      have hb22 := hb16 (fun z => h11 ((mz_ltle (c := 4) (d := 5) (by decide)).mpr z))
      rw [show g_X9_foldRooms_2 M d i2 a3 i12 a13 = g_X9_fold M a13 ((g_X9_ofRoom M i2 i12).toInt64) from rfl] at hb22
      exact mz_sub (by simp) hb22
def g_X9_foldTracks_2 (M : mz_Mem) (d : Int64) (i2 : Int32) (a3 : Int64) (i12 : Int32) (a13 : Int64) : Int64 := g_X9_fold M a13 ((g_X9_ofTrack M i2 i12).toInt64)
def g_X9_foldTracks_1 (M : mz_Mem) (d : Int64) (i2 : Int32) (a3 : Int64) : Int64 := g_X9_fold M (mz_fr 5 (g_X9_foldTracks_2 M d i2 a3) a3) ((g_X9_doubles M i2).toInt64)
def g_X9_foldTracks (M : mz_Mem) (d : Int64) : Int64 := (mz_fr (M 15 0) (g_X9_foldTracks_1 M d) d)
set_option maxHeartbeats 4000000 in
theorem f_X9_foldTracks (l : Launch) (D : va_G) (cA : ClassId) (ρ : Nat → Nat) (hI : mz_I ρ mz_lay2) (M : mz_Mem) (d : Int64) : mz_M l D vwCl cA ρ mz_lay2 yX9_foldTracks cX9_foldTracks 7 (some .long) 5 116 [.ref 0, .long d] M (some (.long (g_X9_foldTracks M d))) M := by
  refine mz_in0 (by decide +kernel) (Nat.le_of_ble_eq_true rfl) (fun Γ C E => ?_)
  have E' := (⟨_, _, _, E⟩ : ∃ Qc mc ms, mz_E Γ Qc mc ms (mz_A ρ mz_lay2))
  refine mz_go FLX9 KLX9 C [(0, .lload_n 1), (1, .lstore_n 3), (2, .iconst 0), (3, .istore 5)] (by decide +kernel) (pc' := 5) (L' := [(5, .int 0), (3, .long d), (0, .ref 0), (1, .long d)]) (st' := []) rfl ?_
  refine mz_sub (L' := [(0, .ref 0), (1, .long d), (3, .long d), (5, .int 0)]) (by simp) ?_
  refine mz_loop (M 15 0) (g_X9_foldTracks_1 M d) (fun (i : Int32) (a : Int64) => mz_W Γ ρ 7 0 0 (mz_H D vwCl cA ρ mz_lay2 M) 5 [(0, .ref 0), (1, .long d), (3, .long a), (5, .int i)] []) d (fun i2 a3 hi4 hx5 hb6 => ?_)
  refine mz_go FLX9 KLX9 C [(5, .iload 5), (7, .aload_n 0), (8, .getfield 19), (11, .getfield 80)] (by decide +kernel) (pc' := 14) (L' := [(0, .ref 0), (1, .long d), (3, .long a3), (5, .int i2)]) (st' := [.int (M 15 0), .int i2]) rfl ?_
  refine mz_ige (off := 50) (tgt := 64) C (by decide +kernel) (by decide) (fun h1 => ?_) (fun h1 => ?_)
  · have e10 := hx5 h1
    subst e10
    refine mz_sub (L' := [(0, .ref 0), (1, .long d), (3, .long (mz_fr (M 15 0) (g_X9_foldTracks_1 M d) d))]) (by simp) ?_
    refine mz_go FLX9 KLX9 C [(64, .lload_n 3)] (by decide +kernel) (pc' := 65) (L' := [(0, .ref 0), (1, .long d), (3, .long (mz_fr (M 15 0) (g_X9_foldTracks_1 M d) d))]) (st' := [.long (mz_fr (M 15 0) (g_X9_foldTracks_1 M d) d)]) rfl ?_
    exact mz_lret C E (by decide +kernel) (rfl) (rfl)
  · refine mz_go FLX9 KLX9 C [(17, .iconst 0), (18, .istore 6)] (by decide +kernel) (pc' := 20) (L' := [(6, .int 0), (0, .ref 0), (1, .long d), (3, .long a3), (5, .int i2)]) (st' := []) rfl ?_
    refine mz_sub (L' := [(0, .ref 0), (1, .long d), (3, .long a3), (5, .int i2), (6, .int 0)]) (by simp) ?_
    refine mz_loop 5 (g_X9_foldTracks_2 M d i2 a3) (fun (i : Int32) (a : Int64) => mz_W Γ ρ 7 0 0 (mz_H D vwCl cA ρ mz_lay2 M) 20 [(0, .ref 0), (1, .long d), (3, .long a), (5, .int i2), (6, .int i)] []) a3 (fun i12 a13 hi14 hx15 hb16 => ?_)
    refine mz_go FLX9 KLX9 C [(20, .iload 6), (22, .iconst 4)] (by decide +kernel) (pc' := 23) (L' := [(0, .ref 0), (1, .long d), (3, .long a13), (5, .int i2), (6, .int i12)]) (st' := [.int 4, .int i12]) rfl ?_
    refine mz_igt (off := 23) (tgt := 46) C (by decide +kernel) (by decide) (fun h11 => ?_) (fun h11 => ?_)
    · have e20 := hx15 ((mz_ltle (c := 4) (d := 5) (by decide)).mp h11)
      subst e20
      refine mz_sub (L' := [(0, .ref 0), (1, .long d), (3, .long (mz_fr 5 (g_X9_foldTracks_2 M d i2 a3) a3)), (5, .int i2)]) (by simp) ?_
      refine mz_go FLX9 KLX9 C [(46, .lload_n 3), (47, .aload_n 0), (48, .iload 5)] (by decide +kernel) (pc' := 50) (L' := [(0, .ref 0), (1, .long d), (3, .long (mz_fr 5 (g_X9_foldTracks_2 M d i2 a3) a3)), (5, .int i2)]) (st' := [.int i2, .ref 0, .long (mz_fr 5 (g_X9_foldTracks_2 M d i2 a3) a3)]) rfl ?_
      refine mz_callV (As := [.int i2]) (rest := [.long (mz_fr 5 (g_X9_foldTracks_2 M d i2 a3) a3)]) C E' (f_X9_doubles l D cA ρ hI M i2 (Int32.not_lt.mpr hi4) (Int32.not_le.mp h1)) hy_X9_doubles wl_X9_409 rfl rfl rfl ⟨Nat.le_of_ble_eq_true rfl, Nat.le_of_ble_eq_true rfl⟩ ⟨Nat.le_refl _, Nat.le_refl _⟩ (Nat.le_of_ble_eq_true rfl) (by decide +kernel) ?_ rfl
      refine mz_go FLX9 KLX9 C [(53, .i2l)] (by decide +kernel) (pc' := 54) (L' := [(0, .ref 0), (1, .long d), (3, .long (mz_fr 5 (g_X9_foldTracks_2 M d i2 a3) a3)), (5, .int i2)]) (st' := [.long ((g_X9_doubles M i2).toInt64), .long (mz_fr 5 (g_X9_foldTracks_2 M d i2 a3) a3)]) rfl ?_
      refine mz_callS (As := [.long (mz_fr 5 (g_X9_foldTracks_2 M d i2 a3) a3), .long ((g_X9_doubles M i2).toInt64)]) (rest := []) C E' (f_X9_fold l D cA ρ hI M (mz_fr 5 (g_X9_foldTracks_2 M d i2 a3) a3) ((g_X9_doubles M i2).toInt64)) hs_X9_fold wl_X9_378 rfl ⟨Nat.le_of_ble_eq_true rfl, Nat.le_of_ble_eq_true rfl⟩ ⟨Nat.le_refl _, Nat.le_refl _⟩ (Nat.le_of_ble_eq_true rfl) (by decide +kernel) ?_ rfl
      refine mz_go FLX9 KLX9 C [(57, .lstore_n 3), (58, .iinc 5 1), (61, .goto (-56))] (by decide +kernel) (pc' := 5) (L' := [(5, .int (i2 + 1)), (3, .long (g_X9_fold M (mz_fr 5 (g_X9_foldTracks_2 M d i2 a3) a3) ((g_X9_doubles M i2).toInt64))), (0, .ref 0), (1, .long d)]) (st' := []) rfl ?_
      have hb21 := hb6 h1
      rw [show g_X9_foldTracks_1 M d i2 a3 = g_X9_fold M (mz_fr 5 (g_X9_foldTracks_2 M d i2 a3) a3) ((g_X9_doubles M i2).toInt64) from rfl] at hb21
      exact mz_sub (by simp) hb21
    · refine mz_go FLX9 KLX9 C [(26, .lload_n 3), (27, .aload_n 0), (28, .iload 5), (30, .iload 6)] (by decide +kernel) (pc' := 32) (L' := [(0, .ref 0), (1, .long d), (3, .long a13), (5, .int i2), (6, .int i12)]) (st' := [.int i12, .int i2, .ref 0, .long a13]) rfl ?_
      refine mz_callV (As := [.int i2, .int i12]) (rest := [.long a13]) C E' (f_X9_ofTrack l D cA ρ hI M i2 i12 (Int32.not_lt.mpr hi4) (Int32.not_le.mp h1) (Int32.not_lt.mpr hi14) (mz_lec (c := 4) (d := 5) (by decide) (fun z => h11 ((mz_ltle (c := 4) (d := 5) (by decide)).mpr z)))) hy_X9_ofTrack wl_X9_406 rfl rfl rfl ⟨Nat.le_of_ble_eq_true rfl, Nat.le_of_ble_eq_true rfl⟩ ⟨Nat.le_refl _, Nat.le_refl _⟩ (Nat.le_of_ble_eq_true rfl) (by decide +kernel) ?_ rfl
      refine mz_go FLX9 KLX9 C [(35, .i2l)] (by decide +kernel) (pc' := 36) (L' := [(0, .ref 0), (1, .long d), (3, .long a13), (5, .int i2), (6, .int i12)]) (st' := [.long ((g_X9_ofTrack M i2 i12).toInt64), .long a13]) rfl ?_
      refine mz_callS (As := [.long a13, .long ((g_X9_ofTrack M i2 i12).toInt64)]) (rest := []) C E' (f_X9_fold l D cA ρ hI M a13 ((g_X9_ofTrack M i2 i12).toInt64)) hs_X9_fold wl_X9_378 rfl ⟨Nat.le_of_ble_eq_true rfl, Nat.le_of_ble_eq_true rfl⟩ ⟨Nat.le_refl _, Nat.le_refl _⟩ (Nat.le_of_ble_eq_true rfl) (by decide +kernel) ?_ rfl
      refine mz_go FLX9 KLX9 C [(39, .lstore_n 3), (40, .iinc 6 1), (43, .goto (-23))] (by decide +kernel) (pc' := 20) (L' := [(6, .int (i12 + 1)), (3, .long (g_X9_fold M a13 ((g_X9_ofTrack M i2 i12).toInt64))), (0, .ref 0), (1, .long d), (5, .int i2)]) (st' := []) rfl ?_
      have hb22 := hb16 (fun z => h11 ((mz_ltle (c := 4) (d := 5) (by decide)).mpr z))
      rw [show g_X9_foldTracks_2 M d i2 a3 i12 a13 = g_X9_fold M a13 ((g_X9_ofTrack M i2 i12).toInt64) from rfl] at hb22
      exact mz_sub (by simp) hb22
def g_X9_foldScenes_2 (M : mz_Mem) (d : Int64) (i2 : Int32) (a3 : Int64) (i12 : Int32) (a13 : Int64) : Int64 := g_X9_fold M a13 ((g_X9_ofScene M i2 i12).toInt64)
def g_X9_foldScenes_1 (M : mz_Mem) (d : Int64) (i2 : Int32) (a3 : Int64) : Int64 := (mz_fr 11 (g_X9_foldScenes_2 M d i2 a3) a3)
def g_X9_foldScenes (M : mz_Mem) (d : Int64) : Int64 := (mz_fr (M 15 2) (g_X9_foldScenes_1 M d) d)
set_option maxHeartbeats 4000000 in
theorem f_X9_foldScenes (l : Launch) (D : va_G) (cA : ClassId) (ρ : Nat → Nat) (hI : mz_I ρ mz_lay2) (M : mz_Mem) (d : Int64) : mz_M l D vwCl cA ρ mz_lay2 yX9_foldScenes cX9_foldScenes 7 (some .long) 4 89 [.ref 0, .long d] M (some (.long (g_X9_foldScenes M d))) M := by
  refine mz_in0 (by decide +kernel) (Nat.le_of_ble_eq_true rfl) (fun Γ C E => ?_)
  have E' := (⟨_, _, _, E⟩ : ∃ Qc mc ms, mz_E Γ Qc mc ms (mz_A ρ mz_lay2))
  refine mz_go FLX9 KLX9 C [(0, .lload_n 1), (1, .lstore_n 3), (2, .iconst 0), (3, .istore 5)] (by decide +kernel) (pc' := 5) (L' := [(5, .int 0), (3, .long d), (0, .ref 0), (1, .long d)]) (st' := []) rfl ?_
  refine mz_sub (L' := [(0, .ref 0), (1, .long d), (3, .long d), (5, .int 0)]) (by simp) ?_
  refine mz_loop (M 15 2) (g_X9_foldScenes_1 M d) (fun (i : Int32) (a : Int64) => mz_W Γ ρ 7 0 0 (mz_H D vwCl cA ρ mz_lay2 M) 5 [(0, .ref 0), (1, .long d), (3, .long a), (5, .int i)] []) d (fun i2 a3 hi4 hx5 hb6 => ?_)
  refine mz_go FLX9 KLX9 C [(5, .iload 5), (7, .aload_n 0), (8, .getfield 19), (11, .getfield 129)] (by decide +kernel) (pc' := 14) (L' := [(0, .ref 0), (1, .long d), (3, .long a3), (5, .int i2)]) (st' := [.int (M 15 2), .int i2]) rfl ?_
  refine mz_ige (off := 39) (tgt := 53) C (by decide +kernel) (by decide) (fun h1 => ?_) (fun h1 => ?_)
  · have e10 := hx5 h1
    subst e10
    refine mz_sub (L' := [(0, .ref 0), (1, .long d), (3, .long (mz_fr (M 15 2) (g_X9_foldScenes_1 M d) d))]) (by simp) ?_
    refine mz_go FLX9 KLX9 C [(53, .lload_n 3)] (by decide +kernel) (pc' := 54) (L' := [(0, .ref 0), (1, .long d), (3, .long (mz_fr (M 15 2) (g_X9_foldScenes_1 M d) d))]) (st' := [.long (mz_fr (M 15 2) (g_X9_foldScenes_1 M d) d)]) rfl ?_
    exact mz_lret C E (by decide +kernel) (rfl) (rfl)
  · refine mz_go FLX9 KLX9 C [(17, .iconst 0), (18, .istore 6)] (by decide +kernel) (pc' := 20) (L' := [(6, .int 0), (0, .ref 0), (1, .long d), (3, .long a3), (5, .int i2)]) (st' := []) rfl ?_
    refine mz_sub (L' := [(0, .ref 0), (1, .long d), (3, .long a3), (5, .int i2), (6, .int 0)]) (by simp) ?_
    refine mz_loop 11 (g_X9_foldScenes_2 M d i2 a3) (fun (i : Int32) (a : Int64) => mz_W Γ ρ 7 0 0 (mz_H D vwCl cA ρ mz_lay2 M) 20 [(0, .ref 0), (1, .long d), (3, .long a), (5, .int i2), (6, .int i)] []) a3 (fun i12 a13 hi14 hx15 hb16 => ?_)
    refine mz_go FLX9 KLX9 C [(20, .iload 6), (22, .bipush 10)] (by decide +kernel) (pc' := 24) (L' := [(0, .ref 0), (1, .long d), (3, .long a13), (5, .int i2), (6, .int i12)]) (st' := [.int 10, .int i12]) rfl ?_
    refine mz_igt (off := 23) (tgt := 47) C (by decide +kernel) (by decide) (fun h11 => ?_) (fun h11 => ?_)
    · have e20 := hx15 ((mz_ltle (c := 10) (d := 11) (by decide)).mp h11)
      subst e20
      refine mz_sub (L' := [(0, .ref 0), (1, .long d), (3, .long (mz_fr 11 (g_X9_foldScenes_2 M d i2 a3) a3)), (5, .int i2)]) (by simp) ?_
      refine mz_go FLX9 KLX9 C [(47, .iinc 5 1), (50, .goto (-45))] (by decide +kernel) (pc' := 5) (L' := [(5, .int (i2 + 1)), (0, .ref 0), (1, .long d), (3, .long (mz_fr 11 (g_X9_foldScenes_2 M d i2 a3) a3))]) (st' := []) rfl ?_
      have hb21 := hb6 h1
      rw [show g_X9_foldScenes_1 M d i2 a3 = (mz_fr 11 (g_X9_foldScenes_2 M d i2 a3) a3) from rfl] at hb21
      exact mz_sub (by simp) hb21
    · refine mz_go FLX9 KLX9 C [(27, .lload_n 3), (28, .aload_n 0), (29, .iload 5), (31, .iload 6)] (by decide +kernel) (pc' := 33) (L' := [(0, .ref 0), (1, .long d), (3, .long a13), (5, .int i2), (6, .int i12)]) (st' := [.int i12, .int i2, .ref 0, .long a13]) rfl ?_
      refine mz_callV (As := [.int i2, .int i12]) (rest := [.long a13]) C E' (f_X9_ofScene l D cA ρ hI M i2 i12 (Int32.not_lt.mpr hi4) (Int32.not_le.mp h1) (Int32.not_lt.mpr hi14) (mz_lec (c := 10) (d := 11) (by decide) (fun z => h11 ((mz_ltle (c := 10) (d := 11) (by decide)).mpr z)))) hy_X9_ofScene wl_X9_412 rfl rfl rfl ⟨Nat.le_of_ble_eq_true rfl, Nat.le_of_ble_eq_true rfl⟩ ⟨Nat.le_refl _, Nat.le_refl _⟩ (Nat.le_of_ble_eq_true rfl) (by decide +kernel) ?_ rfl
      refine mz_go FLX9 KLX9 C [(36, .i2l)] (by decide +kernel) (pc' := 37) (L' := [(0, .ref 0), (1, .long d), (3, .long a13), (5, .int i2), (6, .int i12)]) (st' := [.long ((g_X9_ofScene M i2 i12).toInt64), .long a13]) rfl ?_
      refine mz_callS (As := [.long a13, .long ((g_X9_ofScene M i2 i12).toInt64)]) (rest := []) C E' (f_X9_fold l D cA ρ hI M a13 ((g_X9_ofScene M i2 i12).toInt64)) hs_X9_fold wl_X9_378 rfl ⟨Nat.le_of_ble_eq_true rfl, Nat.le_of_ble_eq_true rfl⟩ ⟨Nat.le_refl _, Nat.le_refl _⟩ (Nat.le_of_ble_eq_true rfl) (by decide +kernel) ?_ rfl
      refine mz_go FLX9 KLX9 C [(40, .lstore_n 3), (41, .iinc 6 1), (44, .goto (-24))] (by decide +kernel) (pc' := 20) (L' := [(6, .int (i12 + 1)), (3, .long (g_X9_fold M a13 ((g_X9_ofScene M i2 i12).toInt64))), (0, .ref 0), (1, .long d), (5, .int i2)]) (st' := []) rfl ?_
      have hb22 := hb16 (fun z => h11 ((mz_ltle (c := 10) (d := 11) (by decide)).mpr z))
      rw [show g_X9_foldScenes_2 M d i2 a3 i12 a13 = g_X9_fold M a13 ((g_X9_ofScene M i2 i12).toInt64) from rfl] at hb22
      exact mz_sub (by simp) hb22
def g_X9_foldProps_2 (M : mz_Mem) (d : Int64) (i2 : Int32) (a3 : Int64) (i12 : Int32) (a13 : Int64) : Int64 := g_X9_fold M a13 ((g_X9_ofProp M i2 i12).toInt64)
def g_X9_foldProps_1 (M : mz_Mem) (d : Int64) (i2 : Int32) (a3 : Int64) : Int64 := (mz_fr 5 (g_X9_foldProps_2 M d i2 a3) a3)
def g_X9_foldProps (M : mz_Mem) (d : Int64) : Int64 := (mz_fr (M 15 1) (g_X9_foldProps_1 M d) d)
set_option maxHeartbeats 4000000 in
theorem f_X9_foldProps (l : Launch) (D : va_G) (cA : ClassId) (ρ : Nat → Nat) (hI : mz_I ρ mz_lay2) (M : mz_Mem) (d : Int64) : mz_M l D vwCl cA ρ mz_lay2 yX9_foldProps cX9_foldProps 7 (some .long) 3 64 [.ref 0, .long d] M (some (.long (g_X9_foldProps M d))) M := by
  refine mz_in0 (by decide +kernel) (Nat.le_of_ble_eq_true rfl) (fun Γ C E => ?_)
  have E' := (⟨_, _, _, E⟩ : ∃ Qc mc ms, mz_E Γ Qc mc ms (mz_A ρ mz_lay2))
  refine mz_go FLX9 KLX9 C [(0, .lload_n 1), (1, .lstore_n 3), (2, .iconst 0), (3, .istore 5)] (by decide +kernel) (pc' := 5) (L' := [(5, .int 0), (3, .long d), (0, .ref 0), (1, .long d)]) (st' := []) rfl ?_
  refine mz_sub (L' := [(0, .ref 0), (1, .long d), (3, .long d), (5, .int 0)]) (by simp) ?_
  refine mz_loop (M 15 1) (g_X9_foldProps_1 M d) (fun (i : Int32) (a : Int64) => mz_W Γ ρ 7 0 0 (mz_H D vwCl cA ρ mz_lay2 M) 5 [(0, .ref 0), (1, .long d), (3, .long a), (5, .int i)] []) d (fun i2 a3 hi4 hx5 hb6 => ?_)
  refine mz_go FLX9 KLX9 C [(5, .iload 5), (7, .aload_n 0), (8, .getfield 19), (11, .getfield 98)] (by decide +kernel) (pc' := 14) (L' := [(0, .ref 0), (1, .long d), (3, .long a3), (5, .int i2)]) (st' := [.int (M 15 1), .int i2]) rfl ?_
  refine mz_ige (off := 38) (tgt := 52) C (by decide +kernel) (by decide) (fun h1 => ?_) (fun h1 => ?_)
  · have e10 := hx5 h1
    subst e10
    refine mz_sub (L' := [(0, .ref 0), (1, .long d), (3, .long (mz_fr (M 15 1) (g_X9_foldProps_1 M d) d))]) (by simp) ?_
    refine mz_go FLX9 KLX9 C [(52, .lload_n 3)] (by decide +kernel) (pc' := 53) (L' := [(0, .ref 0), (1, .long d), (3, .long (mz_fr (M 15 1) (g_X9_foldProps_1 M d) d))]) (st' := [.long (mz_fr (M 15 1) (g_X9_foldProps_1 M d) d)]) rfl ?_
    exact mz_lret C E (by decide +kernel) (rfl) (rfl)
  · refine mz_go FLX9 KLX9 C [(17, .iconst 0), (18, .istore 6)] (by decide +kernel) (pc' := 20) (L' := [(6, .int 0), (0, .ref 0), (1, .long d), (3, .long a3), (5, .int i2)]) (st' := []) rfl ?_
    refine mz_sub (L' := [(0, .ref 0), (1, .long d), (3, .long a3), (5, .int i2), (6, .int 0)]) (by simp) ?_
    refine mz_loop 5 (g_X9_foldProps_2 M d i2 a3) (fun (i : Int32) (a : Int64) => mz_W Γ ρ 7 0 0 (mz_H D vwCl cA ρ mz_lay2 M) 20 [(0, .ref 0), (1, .long d), (3, .long a), (5, .int i2), (6, .int i)] []) a3 (fun i12 a13 hi14 hx15 hb16 => ?_)
    refine mz_go FLX9 KLX9 C [(20, .iload 6), (22, .iconst 4)] (by decide +kernel) (pc' := 23) (L' := [(0, .ref 0), (1, .long d), (3, .long a13), (5, .int i2), (6, .int i12)]) (st' := [.int 4, .int i12]) rfl ?_
    refine mz_igt (off := 23) (tgt := 46) C (by decide +kernel) (by decide) (fun h11 => ?_) (fun h11 => ?_)
    · have e20 := hx15 ((mz_ltle (c := 4) (d := 5) (by decide)).mp h11)
      subst e20
      refine mz_sub (L' := [(0, .ref 0), (1, .long d), (3, .long (mz_fr 5 (g_X9_foldProps_2 M d i2 a3) a3)), (5, .int i2)]) (by simp) ?_
      refine mz_go FLX9 KLX9 C [(46, .iinc 5 1), (49, .goto (-44))] (by decide +kernel) (pc' := 5) (L' := [(5, .int (i2 + 1)), (0, .ref 0), (1, .long d), (3, .long (mz_fr 5 (g_X9_foldProps_2 M d i2 a3) a3))]) (st' := []) rfl ?_
      have hb21 := hb6 h1
      rw [show g_X9_foldProps_1 M d i2 a3 = (mz_fr 5 (g_X9_foldProps_2 M d i2 a3) a3) from rfl] at hb21
      exact mz_sub (by simp) hb21
    · refine mz_go FLX9 KLX9 C [(26, .lload_n 3), (27, .aload_n 0), (28, .iload 5), (30, .iload 6)] (by decide +kernel) (pc' := 32) (L' := [(0, .ref 0), (1, .long d), (3, .long a13), (5, .int i2), (6, .int i12)]) (st' := [.int i12, .int i2, .ref 0, .long a13]) rfl ?_
      refine mz_callV (As := [.int i2, .int i12]) (rest := [.long a13]) C E' (f_X9_ofProp l D cA ρ hI M i2 i12 (Int32.not_lt.mpr hi4) (Int32.not_le.mp h1) (Int32.not_lt.mpr hi14) (mz_lec (c := 4) (d := 5) (by decide) (fun z => h11 ((mz_ltle (c := 4) (d := 5) (by decide)).mpr z)))) hy_X9_ofProp wl_X9_415 rfl rfl rfl ⟨Nat.le_of_ble_eq_true rfl, Nat.le_of_ble_eq_true rfl⟩ ⟨Nat.le_refl _, Nat.le_refl _⟩ (Nat.le_of_ble_eq_true rfl) (by decide +kernel) ?_ rfl
      refine mz_go FLX9 KLX9 C [(35, .i2l)] (by decide +kernel) (pc' := 36) (L' := [(0, .ref 0), (1, .long d), (3, .long a13), (5, .int i2), (6, .int i12)]) (st' := [.long ((g_X9_ofProp M i2 i12).toInt64), .long a13]) rfl ?_
      refine mz_callS (As := [.long a13, .long ((g_X9_ofProp M i2 i12).toInt64)]) (rest := []) C E' (f_X9_fold l D cA ρ hI M a13 ((g_X9_ofProp M i2 i12).toInt64)) hs_X9_fold wl_X9_378 rfl ⟨Nat.le_of_ble_eq_true rfl, Nat.le_of_ble_eq_true rfl⟩ ⟨Nat.le_refl _, Nat.le_refl _⟩ (Nat.le_of_ble_eq_true rfl) (by decide +kernel) ?_ rfl
      refine mz_go FLX9 KLX9 C [(39, .lstore_n 3), (40, .iinc 6 1), (43, .goto (-23))] (by decide +kernel) (pc' := 20) (L' := [(6, .int (i12 + 1)), (3, .long (g_X9_fold M a13 ((g_X9_ofProp M i2 i12).toInt64))), (0, .ref 0), (1, .long d), (5, .int i2)]) (st' := []) rfl ?_
      have hb22 := hb16 (fun z => h11 ((mz_ltle (c := 4) (d := 5) (by decide)).mpr z))
      rw [show g_X9_foldProps_2 M d i2 a3 i12 a13 = g_X9_fold M a13 ((g_X9_ofProp M i2 i12).toInt64) from rfl] at hb22
      exact mz_sub (by simp) hb22
def g_X9_foldGuests_2 (M : mz_Mem) (d : Int64) (i2 : Int32) (a3 : Int64) (i12 : Int32) (a13 : Int64) : Int64 := g_X9_fold M a13 ((g_X9_ofGuest M i2 i12).toInt64)
def g_X9_foldGuests_1 (M : mz_Mem) (d : Int64) (i2 : Int32) (a3 : Int64) : Int64 := if (M 15 2) ≤ 0 then g_X9_fold M (mz_fr 7 (g_X9_foldGuests_2 M d i2 a3) a3) ((g_X0_countKnownBy (mz_tv M) i2).toInt64) else g_X9_fold M (g_X9_fold M (mz_fr 7 (g_X9_foldGuests_2 M d i2 a3) a3) ((g_X0_countKnownBy (mz_tv M) i2).toInt64)) ((g_X9_seen M i2 0).toInt64)
def g_X9_foldGuests (M : mz_Mem) (d : Int64) : Int64 := (mz_fr (M 60 0) (g_X9_foldGuests_1 M d) d)
set_option maxHeartbeats 4000000 in
theorem f_X9_foldGuests (l : Launch) (D : va_G) (cA : ClassId) (ρ : Nat → Nat) (hI : mz_I ρ mz_lay2) (M : mz_Mem) (d : Int64) : mz_M l D vwCl cA ρ mz_lay2 yX9_foldGuests cX9_foldGuests 7 (some .long) 3 66 [.ref 0, .long d] M (some (.long (g_X9_foldGuests M d))) M := by
  refine mz_in0 (by decide +kernel) (Nat.le_of_ble_eq_true rfl) (fun Γ C E => ?_)
  have E' := (⟨_, _, _, E⟩ : ∃ Qc mc ms, mz_E Γ Qc mc ms (mz_A ρ mz_lay2))
  refine mz_go FLX9 KLX9 C [(0, .lload_n 1), (1, .lstore_n 3), (2, .iconst 0), (3, .istore 5)] (by decide +kernel) (pc' := 5) (L' := [(5, .int 0), (3, .long d), (0, .ref 0), (1, .long d)]) (st' := []) rfl ?_
  refine mz_sub (L' := [(0, .ref 0), (1, .long d), (3, .long d), (5, .int 0)]) (by simp) ?_
  refine mz_loop (M 60 0) (g_X9_foldGuests_1 M d) (fun (i : Int32) (a : Int64) => mz_W Γ ρ 7 0 0 (mz_H D vwCl cA ρ mz_lay2 M) 5 [(0, .ref 0), (1, .long d), (3, .long a), (5, .int i)] []) d (fun i2 a3 hi4 hx5 hb6 => ?_)
  refine mz_go FLX9 KLX9 C [(5, .iload 5), (7, .aload_n 0), (8, .getfield 28), (11, .getfield 146), (14, .getfield 150)] (by decide +kernel) (pc' := 17) (L' := [(0, .ref 0), (1, .long d), (3, .long a3), (5, .int i2)]) (st' := [.int (M 60 0), .int i2]) rfl ?_
  refine mz_ige (off := 80) (tgt := 97) C (by decide +kernel) (by decide) (fun h1 => ?_) (fun h1 => ?_)
  · have e10 := hx5 h1
    subst e10
    refine mz_sub (L' := [(0, .ref 0), (1, .long d), (3, .long (mz_fr (M 60 0) (g_X9_foldGuests_1 M d) d))]) (by simp) ?_
    refine mz_go FLX9 KLX9 C [(97, .lload_n 3)] (by decide +kernel) (pc' := 98) (L' := [(0, .ref 0), (1, .long d), (3, .long (mz_fr (M 60 0) (g_X9_foldGuests_1 M d) d))]) (st' := [.long (mz_fr (M 60 0) (g_X9_foldGuests_1 M d) d)]) rfl ?_
    exact mz_lret C E (by decide +kernel) (rfl) (rfl)
  · refine mz_go FLX9 KLX9 C [(20, .iconst 0), (21, .istore 6)] (by decide +kernel) (pc' := 23) (L' := [(6, .int 0), (0, .ref 0), (1, .long d), (3, .long a3), (5, .int i2)]) (st' := []) rfl ?_
    refine mz_sub (L' := [(0, .ref 0), (1, .long d), (3, .long a3), (5, .int i2), (6, .int 0)]) (by simp) ?_
    refine mz_loop 7 (g_X9_foldGuests_2 M d i2 a3) (fun (i : Int32) (a : Int64) => mz_W Γ ρ 7 0 0 (mz_H D vwCl cA ρ mz_lay2 M) 23 [(0, .ref 0), (1, .long d), (3, .long a), (5, .int i2), (6, .int i)] []) a3 (fun i12 a13 hi14 hx15 hb16 => ?_)
    refine mz_go FLX9 KLX9 C [(23, .iload 6), (25, .bipush 6)] (by decide +kernel) (pc' := 27) (L' := [(0, .ref 0), (1, .long d), (3, .long a13), (5, .int i2), (6, .int i12)]) (st' := [.int 6, .int i12]) rfl ?_
    refine mz_igt (off := 23) (tgt := 50) C (by decide +kernel) (by decide) (fun h11 => ?_) (fun h11 => ?_)
    · have e20 := hx15 ((mz_ltle (c := 6) (d := 7) (by decide)).mp h11)
      subst e20
      refine mz_sub (L' := [(0, .ref 0), (1, .long d), (3, .long (mz_fr 7 (g_X9_foldGuests_2 M d i2 a3) a3)), (5, .int i2)]) (by simp) ?_
      refine mz_go FLX9 KLX9 C [(50, .lload_n 3), (51, .aload_n 0), (52, .getfield 32), (55, .getfield 146), (58, .iload 5)] (by decide +kernel) (pc' := 60) (L' := [(0, .ref 0), (1, .long d), (3, .long (mz_fr 7 (g_X9_foldGuests_2 M d i2 a3) a3)), (5, .int i2)]) (st' := [.int i2, .ref 108, .long (mz_fr 7 (g_X9_foldGuests_2 M d i2 a3) a3)]) rfl ?_
      refine mz_callV (As := [.int i2]) (rest := [.long (mz_fr 7 (g_X9_foldGuests_2 M d i2 a3) a3)]) C E' (mz_liftTR hI (f_X0_countKnownBy l D cA _ (mz_IT hI) (mz_tv M) i2) rfl rfl) hy_X0_countKnownBy wl_X9_361 rfl rfl rfl ⟨Nat.le_of_ble_eq_true rfl, Nat.le_of_ble_eq_true rfl⟩ ⟨Nat.le_refl _, Nat.le_refl _⟩ (Nat.le_of_ble_eq_true rfl) (by decide +kernel) ?_ rfl
      refine mz_go FLX9 KLX9 C [(63, .i2l)] (by decide +kernel) (pc' := 64) (L' := [(0, .ref 0), (1, .long d), (3, .long (mz_fr 7 (g_X9_foldGuests_2 M d i2 a3) a3)), (5, .int i2)]) (st' := [.long ((g_X0_countKnownBy (mz_tv M) i2).toInt64), .long (mz_fr 7 (g_X9_foldGuests_2 M d i2 a3) a3)]) rfl ?_
      refine mz_callS (As := [.long (mz_fr 7 (g_X9_foldGuests_2 M d i2 a3) a3), .long ((g_X0_countKnownBy (mz_tv M) i2).toInt64)]) (rest := []) C E' (f_X9_fold l D cA ρ hI M (mz_fr 7 (g_X9_foldGuests_2 M d i2 a3) a3) ((g_X0_countKnownBy (mz_tv M) i2).toInt64)) hs_X9_fold wl_X9_378 rfl ⟨Nat.le_of_ble_eq_true rfl, Nat.le_of_ble_eq_true rfl⟩ ⟨Nat.le_refl _, Nat.le_refl _⟩ (Nat.le_of_ble_eq_true rfl) (by decide +kernel) ?_ rfl
      refine mz_go FLX9 KLX9 C [(67, .lstore_n 3), (68, .aload_n 0), (69, .getfield 19), (72, .getfield 129)] (by decide +kernel) (pc' := 75) (L' := [(3, .long (g_X9_fold M (mz_fr 7 (g_X9_foldGuests_2 M d i2 a3) a3) ((g_X0_countKnownBy (mz_tv M) i2).toInt64))), (0, .ref 0), (1, .long d), (5, .int i2)]) (st' := [.int (M 15 2)]) rfl ?_
      refine mz_zle (off := 16) (tgt := 91) C (by decide +kernel) (by decide) (fun h21 => ?_) (fun h21 => ?_)
      · refine mz_go FLX9 KLX9 C [(91, .iinc 5 1), (94, .goto (-89))] (by decide +kernel) (pc' := 5) (L' := [(5, .int (i2 + 1)), (3, .long (g_X9_fold M (mz_fr 7 (g_X9_foldGuests_2 M d i2 a3) a3) ((g_X0_countKnownBy (mz_tv M) i2).toInt64))), (0, .ref 0), (1, .long d)]) (st' := []) rfl ?_
        have hb22 := hb6 h1
        rw [show g_X9_foldGuests_1 M d i2 a3 = g_X9_fold M (mz_fr 7 (g_X9_foldGuests_2 M d i2 a3) a3) ((g_X0_countKnownBy (mz_tv M) i2).toInt64) from by unfold g_X9_foldGuests_1; rw [if_pos h21]] at hb22
        exact mz_sub (by simp) hb22
      · refine mz_go FLX9 KLX9 C [(78, .lload_n 3), (79, .aload_n 0), (80, .iload 5), (82, .iconst 0)] (by decide +kernel) (pc' := 83) (L' := [(3, .long (g_X9_fold M (mz_fr 7 (g_X9_foldGuests_2 M d i2 a3) a3) ((g_X0_countKnownBy (mz_tv M) i2).toInt64))), (0, .ref 0), (1, .long d), (5, .int i2)]) (st' := [.int 0, .int i2, .ref 0, .long (g_X9_fold M (mz_fr 7 (g_X9_foldGuests_2 M d i2 a3) a3) ((g_X0_countKnownBy (mz_tv M) i2).toInt64))]) rfl ?_
        refine mz_callV (As := [.int i2, .int 0]) (rest := [.long (g_X9_fold M (mz_fr 7 (g_X9_foldGuests_2 M d i2 a3) a3) ((g_X0_countKnownBy (mz_tv M) i2).toInt64))]) C E' (f_X9_seen l D cA ρ hI M i2 0 (Int32.not_lt.mpr hi4) (Int32.not_le.mp h1) (by decide) (Int32.not_le.mp h21)) hy_X9_seen wl_X9_421 rfl rfl rfl ⟨Nat.le_of_ble_eq_true rfl, Nat.le_of_ble_eq_true rfl⟩ ⟨Nat.le_refl _, Nat.le_refl _⟩ (Nat.le_of_ble_eq_true rfl) (by decide +kernel) ?_ rfl
        refine mz_go FLX9 KLX9 C [(86, .i2l)] (by decide +kernel) (pc' := 87) (L' := [(3, .long (g_X9_fold M (mz_fr 7 (g_X9_foldGuests_2 M d i2 a3) a3) ((g_X0_countKnownBy (mz_tv M) i2).toInt64))), (0, .ref 0), (1, .long d), (5, .int i2)]) (st' := [.long ((g_X9_seen M i2 0).toInt64), .long (g_X9_fold M (mz_fr 7 (g_X9_foldGuests_2 M d i2 a3) a3) ((g_X0_countKnownBy (mz_tv M) i2).toInt64))]) rfl ?_
        refine mz_callS (As := [.long (g_X9_fold M (mz_fr 7 (g_X9_foldGuests_2 M d i2 a3) a3) ((g_X0_countKnownBy (mz_tv M) i2).toInt64)), .long ((g_X9_seen M i2 0).toInt64)]) (rest := []) C E' (f_X9_fold l D cA ρ hI M (g_X9_fold M (mz_fr 7 (g_X9_foldGuests_2 M d i2 a3) a3) ((g_X0_countKnownBy (mz_tv M) i2).toInt64)) ((g_X9_seen M i2 0).toInt64)) hs_X9_fold wl_X9_378 rfl ⟨Nat.le_of_ble_eq_true rfl, Nat.le_of_ble_eq_true rfl⟩ ⟨Nat.le_refl _, Nat.le_refl _⟩ (Nat.le_of_ble_eq_true rfl) (by decide +kernel) ?_ rfl
        refine mz_go FLX9 KLX9 C [(90, .lstore_n 3), (91, .iinc 5 1), (94, .goto (-89))] (by decide +kernel) (pc' := 5) (L' := [(5, .int (i2 + 1)), (3, .long (g_X9_fold M (g_X9_fold M (mz_fr 7 (g_X9_foldGuests_2 M d i2 a3) a3) ((g_X0_countKnownBy (mz_tv M) i2).toInt64)) ((g_X9_seen M i2 0).toInt64))), (0, .ref 0), (1, .long d)]) (st' := []) rfl ?_
        have hb23 := hb6 h1
        rw [show g_X9_foldGuests_1 M d i2 a3 = g_X9_fold M (g_X9_fold M (mz_fr 7 (g_X9_foldGuests_2 M d i2 a3) a3) ((g_X0_countKnownBy (mz_tv M) i2).toInt64)) ((g_X9_seen M i2 0).toInt64) from by unfold g_X9_foldGuests_1; rw [if_neg h21]] at hb23
        exact mz_sub (by simp) hb23
    · refine mz_go FLX9 KLX9 C [(30, .lload_n 3), (31, .aload_n 0), (32, .iload 5), (34, .iload 6)] (by decide +kernel) (pc' := 36) (L' := [(0, .ref 0), (1, .long d), (3, .long a13), (5, .int i2), (6, .int i12)]) (st' := [.int i12, .int i2, .ref 0, .long a13]) rfl ?_
      refine mz_callV (As := [.int i2, .int i12]) (rest := [.long a13]) C E' (f_X9_ofGuest l D cA ρ hI M i2 i12 (Int32.not_lt.mpr hi4) (Int32.not_le.mp h1) (Int32.not_lt.mpr hi14) (mz_lec (c := 6) (d := 7) (by decide) (fun z => h11 ((mz_ltle (c := 6) (d := 7) (by decide)).mpr z)))) hy_X9_ofGuest wl_X9_418 rfl rfl rfl ⟨Nat.le_of_ble_eq_true rfl, Nat.le_of_ble_eq_true rfl⟩ ⟨Nat.le_refl _, Nat.le_refl _⟩ (Nat.le_of_ble_eq_true rfl) (by decide +kernel) ?_ rfl
      refine mz_go FLX9 KLX9 C [(39, .i2l)] (by decide +kernel) (pc' := 40) (L' := [(0, .ref 0), (1, .long d), (3, .long a13), (5, .int i2), (6, .int i12)]) (st' := [.long ((g_X9_ofGuest M i2 i12).toInt64), .long a13]) rfl ?_
      refine mz_callS (As := [.long a13, .long ((g_X9_ofGuest M i2 i12).toInt64)]) (rest := []) C E' (f_X9_fold l D cA ρ hI M a13 ((g_X9_ofGuest M i2 i12).toInt64)) hs_X9_fold wl_X9_378 rfl ⟨Nat.le_of_ble_eq_true rfl, Nat.le_of_ble_eq_true rfl⟩ ⟨Nat.le_refl _, Nat.le_refl _⟩ (Nat.le_of_ble_eq_true rfl) (by decide +kernel) ?_ rfl
      refine mz_go FLX9 KLX9 C [(43, .lstore_n 3), (44, .iinc 6 1), (47, .goto (-24))] (by decide +kernel) (pc' := 23) (L' := [(6, .int (i12 + 1)), (3, .long (g_X9_fold M a13 ((g_X9_ofGuest M i2 i12).toInt64))), (0, .ref 0), (1, .long d), (5, .int i2)]) (st' := []) rfl ?_
      have hb24 := hb16 (fun z => h11 ((mz_ltle (c := 6) (d := 7) (by decide)).mpr z))
      rw [show g_X9_foldGuests_2 M d i2 a3 i12 a13 = g_X9_fold M a13 ((g_X9_ofGuest M i2 i12).toInt64) from rfl] at hb24
      exact mz_sub (by simp) hb24
def g_X9_countCutsOfTrial (M : mz_Mem) : Int32 := ((mz_sum 12 (M 98)) - (mz_sum 12 (M 50)))
set_option maxHeartbeats 4000000 in
theorem f_X9_countCutsOfTrial (l : Launch) (D : va_G) (cA : ClassId) (ρ : Nat → Nat) (hI : mz_I ρ mz_lay2) (M : mz_Mem) : mz_M l D vwCl cA ρ mz_lay2 yX9_countCutsOfTrial cX9_countCutsOfTrial 1 (some .int) 1 22 [.ref 0] M (some (.int (g_X9_countCutsOfTrial M))) M := by
  refine mz_in0 (by decide +kernel) (Nat.le_of_ble_eq_true rfl) (fun Γ C E => ?_)
  have E' := (⟨_, _, _, E⟩ : ∃ Qc mc ms, mz_E Γ Qc mc ms (mz_A ρ mz_lay2))
  refine mz_go FLX9 KLX9 C [(0, .aload_n 0), (1, .getfield 32), (4, .getfield 187), (7, .getfield 314)] (by decide +kernel) (pc' := 10) (L' := [(0, .ref 0)]) (st' := [.ref 97]) rfl ?_
  refine mz_callV (As := []) (rest := []) C E' (f_Row_sum l D cA ρ hI (r := 97) (a := 98) (n := 12) rfl rfl (by decide) M ) hy_X6_sum wl_X9_196 rfl rfl rfl ⟨Nat.le_of_ble_eq_true rfl, Nat.le_of_ble_eq_true rfl⟩ ⟨Nat.le_refl _, Nat.le_refl _⟩ (Nat.le_of_ble_eq_true rfl) (by decide +kernel) ?_ rfl
  refine mz_go FLX9 KLX9 C [(13, .aload_n 0), (14, .getfield 28), (17, .getfield 187), (20, .getfield 314)] (by decide +kernel) (pc' := 23) (L' := [(0, .ref 0)]) (st' := [.ref 49, .int (mz_sum 12 (M 98))]) rfl ?_
  refine mz_callV (As := []) (rest := [.int (mz_sum 12 (M 98))]) C E' (f_Row_sum l D cA ρ hI (r := 49) (a := 50) (n := 12) rfl rfl (by decide) M ) hy_X6_sum wl_X9_196 rfl rfl rfl ⟨Nat.le_of_ble_eq_true rfl, Nat.le_of_ble_eq_true rfl⟩ ⟨Nat.le_refl _, Nat.le_refl _⟩ (Nat.le_of_ble_eq_true rfl) (by decide +kernel) ?_ rfl
  refine mz_go FLX9 KLX9 C [(26, .isub)] (by decide +kernel) (pc' := 27) (L' := [(0, .ref 0)]) (st' := [.int ((mz_sum 12 (M 98)) - (mz_sum 12 (M 50)))]) rfl ?_
  exact mz_iret C E (by decide +kernel) (rfl) (rfl)
end
section
def g_X9_digest_1 (M : mz_Mem) (i2 : Int32) (a3 : Int64) : Int64 := g_X9_fold M a3 ((g_X9_many M i2).toInt64)
def g_X9_digest (M : mz_Mem) : Int64 × mz_Mem := ((g_X9_fold (mz_tri (mz_tri (g_X2_copyFrom M) (g_X2_run (mz_tv (g_X2_copyFrom M)) 5)) (g_X2_run (mz_tv (mz_tri (g_X2_copyFrom M) (g_X2_run (mz_tv (g_X2_copyFrom M)) 5))) 4)) (g_X9_foldGuests (mz_tri (g_X2_copyFrom M) (g_X2_run (mz_tv (g_X2_copyFrom M)) 5)) (g_X9_foldProps M (g_X9_foldScenes M (g_X9_foldTracks M (g_X9_foldRooms M (mz_fr 13 (g_X9_digest_1 M) 9103)))))) ((g_X9_countCutsOfTrial (mz_tri (mz_tri (g_X2_copyFrom M) (g_X2_run (mz_tv (g_X2_copyFrom M)) 5)) (g_X2_run (mz_tv (mz_tri (g_X2_copyFrom M) (g_X2_run (mz_tv (g_X2_copyFrom M)) 5))) 4))).toInt64)), (mz_tri (mz_tri (g_X2_copyFrom M) (g_X2_run (mz_tv (g_X2_copyFrom M)) 5)) (g_X2_run (mz_tv (mz_tri (g_X2_copyFrom M) (g_X2_run (mz_tv (g_X2_copyFrom M)) 5))) 4)))
theorem g_X9_digest_hs (M : mz_Mem) : mz_hs M (g_X9_digest M).2 := by
  unfold g_X9_digest
  exact ((g_X2_copyFrom_hs M ).trans (mz_hs_tri)).trans (mz_hs_tri)

set_option maxHeartbeats 4000000 in
theorem f_X9_digest (l : Launch) (D : va_G) (cA : ClassId) (ρ : Nat → Nat) (hI : mz_I ρ mz_lay2) (M : mz_Mem) : mz_M l D vwCl cA ρ mz_lay2 yX9_digest cX9_digest 4 (some .long) 6 142 [.ref 0] M (some (.long (g_X9_digest M).1)) (g_X9_digest M).2 := by
  refine mz_in0 (by decide +kernel) (Nat.le_of_ble_eq_true rfl) (fun Γ C E => ?_)
  have E' := (⟨_, _, _, E⟩ : ∃ Qc mc ms, mz_E Γ Qc mc ms (mz_A ρ mz_lay2))
  refine mz_go FLX9 KLX9 C [(0, .ldc2_w 373), (3, .lstore_n 1), (4, .iconst 0), (5, .istore_n 3)] (by decide +kernel) (pc' := 6) (L' := [(3, .int 0), (1, .long 9103), (0, .ref 0)]) (st' := []) rfl ?_
  refine mz_sub (L' := [(0, .ref 0), (1, .long 9103), (3, .int 0)]) (by simp) ?_
  refine mz_loop 13 (g_X9_digest_1 M) (fun (i : Int32) (a : Int64) => mz_W Γ ρ 4 0 0 (mz_H D vwCl cA ρ mz_lay2 M) 6 [(0, .ref 0), (1, .long a), (3, .int i)] []) 9103 (fun i2 a3 hi4 hx5 hb6 => ?_)
  refine mz_go FLX9 KLX9 C [(6, .iload_n 3), (7, .bipush 12)] (by decide +kernel) (pc' := 9) (L' := [(0, .ref 0), (1, .long a3), (3, .int i2)]) (st' := [.int 12, .int i2]) rfl ?_
  refine mz_igt (off := 20) (tgt := 29) C (by decide +kernel) (by decide) (fun h1 => ?_) (fun h1 => ?_)
  · have e10 := hx5 ((mz_ltle (c := 12) (d := 13) (by decide)).mp h1)
    subst e10
    refine mz_sub (L' := [(0, .ref 0), (1, .long (mz_fr 13 (g_X9_digest_1 M) 9103))]) (by simp) ?_
    refine mz_go FLX9 KLX9 C [(29, .aload_n 0), (30, .lload_n 1)] (by decide +kernel) (pc' := 31) (L' := [(0, .ref 0), (1, .long (mz_fr 13 (g_X9_digest_1 M) 9103))]) (st' := [.long (mz_fr 13 (g_X9_digest_1 M) 9103), .ref 0]) rfl ?_
    refine mz_callV (As := [.long (mz_fr 13 (g_X9_digest_1 M) 9103)]) (rest := []) C E' (f_X9_foldRooms l D cA ρ hI M (mz_fr 13 (g_X9_digest_1 M) 9103)) hy_X9_foldRooms wl_X9_382 rfl rfl rfl ⟨Nat.le_of_ble_eq_true rfl, Nat.le_of_ble_eq_true rfl⟩ ⟨Nat.le_refl _, Nat.le_refl _⟩ (Nat.le_of_ble_eq_true rfl) (by decide +kernel) ?_ rfl
    refine mz_go FLX9 KLX9 C [(34, .lstore_n 1), (35, .aload_n 0), (36, .lload_n 1)] (by decide +kernel) (pc' := 37) (L' := [(1, .long (g_X9_foldRooms M (mz_fr 13 (g_X9_digest_1 M) 9103))), (0, .ref 0)]) (st' := [.long (g_X9_foldRooms M (mz_fr 13 (g_X9_digest_1 M) 9103)), .ref 0]) rfl ?_
    refine mz_callV (As := [.long (g_X9_foldRooms M (mz_fr 13 (g_X9_digest_1 M) 9103))]) (rest := []) C E' (f_X9_foldTracks l D cA ρ hI M (g_X9_foldRooms M (mz_fr 13 (g_X9_digest_1 M) 9103))) hy_X9_foldTracks wl_X9_386 rfl rfl rfl ⟨Nat.le_of_ble_eq_true rfl, Nat.le_of_ble_eq_true rfl⟩ ⟨Nat.le_refl _, Nat.le_refl _⟩ (Nat.le_of_ble_eq_true rfl) (by decide +kernel) ?_ rfl
    refine mz_go FLX9 KLX9 C [(40, .lstore_n 1), (41, .aload_n 0), (42, .lload_n 1)] (by decide +kernel) (pc' := 43) (L' := [(1, .long (g_X9_foldTracks M (g_X9_foldRooms M (mz_fr 13 (g_X9_digest_1 M) 9103)))), (0, .ref 0)]) (st' := [.long (g_X9_foldTracks M (g_X9_foldRooms M (mz_fr 13 (g_X9_digest_1 M) 9103))), .ref 0]) rfl ?_
    refine mz_callV (As := [.long (g_X9_foldTracks M (g_X9_foldRooms M (mz_fr 13 (g_X9_digest_1 M) 9103)))]) (rest := []) C E' (f_X9_foldScenes l D cA ρ hI M (g_X9_foldTracks M (g_X9_foldRooms M (mz_fr 13 (g_X9_digest_1 M) 9103)))) hy_X9_foldScenes wl_X9_389 rfl rfl rfl ⟨Nat.le_of_ble_eq_true rfl, Nat.le_of_ble_eq_true rfl⟩ ⟨Nat.le_refl _, Nat.le_refl _⟩ (Nat.le_of_ble_eq_true rfl) (by decide +kernel) ?_ rfl
    refine mz_go FLX9 KLX9 C [(46, .lstore_n 1), (47, .aload_n 0), (48, .lload_n 1)] (by decide +kernel) (pc' := 49) (L' := [(1, .long (g_X9_foldScenes M (g_X9_foldTracks M (g_X9_foldRooms M (mz_fr 13 (g_X9_digest_1 M) 9103))))), (0, .ref 0)]) (st' := [.long (g_X9_foldScenes M (g_X9_foldTracks M (g_X9_foldRooms M (mz_fr 13 (g_X9_digest_1 M) 9103)))), .ref 0]) rfl ?_
    refine mz_callV (As := [.long (g_X9_foldScenes M (g_X9_foldTracks M (g_X9_foldRooms M (mz_fr 13 (g_X9_digest_1 M) 9103))))]) (rest := []) C E' (f_X9_foldProps l D cA ρ hI M (g_X9_foldScenes M (g_X9_foldTracks M (g_X9_foldRooms M (mz_fr 13 (g_X9_digest_1 M) 9103))))) hy_X9_foldProps wl_X9_392 rfl rfl rfl ⟨Nat.le_of_ble_eq_true rfl, Nat.le_of_ble_eq_true rfl⟩ ⟨Nat.le_refl _, Nat.le_refl _⟩ (Nat.le_of_ble_eq_true rfl) (by decide +kernel) ?_ rfl
    refine mz_go FLX9 KLX9 C [(52, .lstore_n 1), (53, .aload_n 0), (54, .getfield 32), (57, .aload_n 0), (58, .getfield 28)] (by decide +kernel) (pc' := 61) (L' := [(1, .long (g_X9_foldProps M (g_X9_foldScenes M (g_X9_foldTracks M (g_X9_foldRooms M (mz_fr 13 (g_X9_digest_1 M) 9103)))))), (0, .ref 0)]) (st' := [.ref 30, .ref 78]) rfl ?_
    refine mz_callV (As := [.ref 30]) (rest := []) C E' (f_X2_copyFrom l D cA ρ hI M ) hy_X2_copyFrom wl_X9_357 rfl rfl rfl ⟨Nat.le_of_ble_eq_true rfl, Nat.le_of_ble_eq_true rfl⟩ ⟨Nat.le_refl _, Nat.le_refl _⟩ (Nat.le_of_ble_eq_true rfl) (by decide +kernel) ?_ rfl
    refine mz_go FLX9 KLX9 C [(64, .aload_n 0), (65, .getfield 32), (68, .iconst 5)] (by decide +kernel) (pc' := 69) (L' := [(1, .long (g_X9_foldProps M (g_X9_foldScenes M (g_X9_foldTracks M (g_X9_foldRooms M (mz_fr 13 (g_X9_digest_1 M) 9103)))))), (0, .ref 0)]) (st' := [.int 5, .ref 78]) rfl ?_
    refine mz_callV (As := [.int 5]) (rest := []) C E' (mz_liftT hI (f_X2_run l D cA _ (mz_IT hI) (mz_tv (g_X2_copyFrom M)) 5) (g_X2_run_hs (mz_tv (g_X2_copyFrom M)) 5) rfl rfl) hy_X2_run wl_X9_200 rfl rfl rfl ⟨Nat.le_of_ble_eq_true rfl, Nat.le_of_ble_eq_true rfl⟩ ⟨Nat.le_refl _, Nat.le_refl _⟩ (Nat.le_of_ble_eq_true rfl) (by decide +kernel) ?_ rfl
    refine mz_go FLX9 KLX9 C [(72, .aload_n 0), (73, .lload_n 1)] (by decide +kernel) (pc' := 74) (L' := [(1, .long (g_X9_foldProps M (g_X9_foldScenes M (g_X9_foldTracks M (g_X9_foldRooms M (mz_fr 13 (g_X9_digest_1 M) 9103)))))), (0, .ref 0)]) (st' := [.long (g_X9_foldProps M (g_X9_foldScenes M (g_X9_foldTracks M (g_X9_foldRooms M (mz_fr 13 (g_X9_digest_1 M) 9103))))), .ref 0]) rfl ?_
    refine mz_callV (As := [.long (g_X9_foldProps M (g_X9_foldScenes M (g_X9_foldTracks M (g_X9_foldRooms M (mz_fr 13 (g_X9_digest_1 M) 9103)))))]) (rest := []) C E' (f_X9_foldGuests l D cA ρ hI (mz_tri (g_X2_copyFrom M) (g_X2_run (mz_tv (g_X2_copyFrom M)) 5)) (g_X9_foldProps M (g_X9_foldScenes M (g_X9_foldTracks M (g_X9_foldRooms M (mz_fr 13 (g_X9_digest_1 M) 9103)))))) hy_X9_foldGuests wl_X9_395 rfl rfl rfl ⟨Nat.le_of_ble_eq_true rfl, Nat.le_of_ble_eq_true rfl⟩ ⟨Nat.le_refl _, Nat.le_refl _⟩ (Nat.le_of_ble_eq_true rfl) (by decide +kernel) ?_ rfl
    refine mz_go FLX9 KLX9 C [(77, .lstore_n 1), (78, .aload_n 0), (79, .getfield 32), (82, .iconst 4)] (by decide +kernel) (pc' := 83) (L' := [(1, .long (g_X9_foldGuests (mz_tri (g_X2_copyFrom M) (g_X2_run (mz_tv (g_X2_copyFrom M)) 5)) (g_X9_foldProps M (g_X9_foldScenes M (g_X9_foldTracks M (g_X9_foldRooms M (mz_fr 13 (g_X9_digest_1 M) 9103))))))), (0, .ref 0)]) (st' := [.int 4, .ref 78]) rfl ?_
    refine mz_callV (As := [.int 4]) (rest := []) C E' (mz_liftT hI (f_X2_run l D cA _ (mz_IT hI) (mz_tv (mz_tri (g_X2_copyFrom M) (g_X2_run (mz_tv (g_X2_copyFrom M)) 5))) 4) (g_X2_run_hs (mz_tv (mz_tri (g_X2_copyFrom M) (g_X2_run (mz_tv (g_X2_copyFrom M)) 5))) 4) rfl rfl) hy_X2_run wl_X9_200 rfl rfl rfl ⟨Nat.le_of_ble_eq_true rfl, Nat.le_of_ble_eq_true rfl⟩ ⟨Nat.le_refl _, Nat.le_refl _⟩ (Nat.le_of_ble_eq_true rfl) (by decide +kernel) ?_ rfl
    refine mz_go FLX9 KLX9 C [(86, .lload_n 1), (87, .aload_n 0)] (by decide +kernel) (pc' := 88) (L' := [(1, .long (g_X9_foldGuests (mz_tri (g_X2_copyFrom M) (g_X2_run (mz_tv (g_X2_copyFrom M)) 5)) (g_X9_foldProps M (g_X9_foldScenes M (g_X9_foldTracks M (g_X9_foldRooms M (mz_fr 13 (g_X9_digest_1 M) 9103))))))), (0, .ref 0)]) (st' := [.ref 0, .long (g_X9_foldGuests (mz_tri (g_X2_copyFrom M) (g_X2_run (mz_tv (g_X2_copyFrom M)) 5)) (g_X9_foldProps M (g_X9_foldScenes M (g_X9_foldTracks M (g_X9_foldRooms M (mz_fr 13 (g_X9_digest_1 M) 9103))))))]) rfl ?_
    refine mz_callV (As := []) (rest := [.long (g_X9_foldGuests (mz_tri (g_X2_copyFrom M) (g_X2_run (mz_tv (g_X2_copyFrom M)) 5)) (g_X9_foldProps M (g_X9_foldScenes M (g_X9_foldTracks M (g_X9_foldRooms M (mz_fr 13 (g_X9_digest_1 M) 9103))))))]) C E' (f_X9_countCutsOfTrial l D cA ρ hI (mz_tri (mz_tri (g_X2_copyFrom M) (g_X2_run (mz_tv (g_X2_copyFrom M)) 5)) (g_X2_run (mz_tv (mz_tri (g_X2_copyFrom M) (g_X2_run (mz_tv (g_X2_copyFrom M)) 5))) 4)) ) hy_X9_countCutsOfTrial wl_X9_370 rfl rfl rfl ⟨Nat.le_of_ble_eq_true rfl, Nat.le_of_ble_eq_true rfl⟩ ⟨Nat.le_refl _, Nat.le_refl _⟩ (Nat.le_of_ble_eq_true rfl) (by decide +kernel) ?_ rfl
    refine mz_go FLX9 KLX9 C [(91, .i2l)] (by decide +kernel) (pc' := 92) (L' := [(1, .long (g_X9_foldGuests (mz_tri (g_X2_copyFrom M) (g_X2_run (mz_tv (g_X2_copyFrom M)) 5)) (g_X9_foldProps M (g_X9_foldScenes M (g_X9_foldTracks M (g_X9_foldRooms M (mz_fr 13 (g_X9_digest_1 M) 9103))))))), (0, .ref 0)]) (st' := [.long ((g_X9_countCutsOfTrial (mz_tri (mz_tri (g_X2_copyFrom M) (g_X2_run (mz_tv (g_X2_copyFrom M)) 5)) (g_X2_run (mz_tv (mz_tri (g_X2_copyFrom M) (g_X2_run (mz_tv (g_X2_copyFrom M)) 5))) 4))).toInt64), .long (g_X9_foldGuests (mz_tri (g_X2_copyFrom M) (g_X2_run (mz_tv (g_X2_copyFrom M)) 5)) (g_X9_foldProps M (g_X9_foldScenes M (g_X9_foldTracks M (g_X9_foldRooms M (mz_fr 13 (g_X9_digest_1 M) 9103))))))]) rfl ?_
    refine mz_callS (As := [.long (g_X9_foldGuests (mz_tri (g_X2_copyFrom M) (g_X2_run (mz_tv (g_X2_copyFrom M)) 5)) (g_X9_foldProps M (g_X9_foldScenes M (g_X9_foldTracks M (g_X9_foldRooms M (mz_fr 13 (g_X9_digest_1 M) 9103)))))), .long ((g_X9_countCutsOfTrial (mz_tri (mz_tri (g_X2_copyFrom M) (g_X2_run (mz_tv (g_X2_copyFrom M)) 5)) (g_X2_run (mz_tv (mz_tri (g_X2_copyFrom M) (g_X2_run (mz_tv (g_X2_copyFrom M)) 5))) 4))).toInt64)]) (rest := []) C E' (f_X9_fold l D cA ρ hI (mz_tri (mz_tri (g_X2_copyFrom M) (g_X2_run (mz_tv (g_X2_copyFrom M)) 5)) (g_X2_run (mz_tv (mz_tri (g_X2_copyFrom M) (g_X2_run (mz_tv (g_X2_copyFrom M)) 5))) 4)) (g_X9_foldGuests (mz_tri (g_X2_copyFrom M) (g_X2_run (mz_tv (g_X2_copyFrom M)) 5)) (g_X9_foldProps M (g_X9_foldScenes M (g_X9_foldTracks M (g_X9_foldRooms M (mz_fr 13 (g_X9_digest_1 M) 9103)))))) ((g_X9_countCutsOfTrial (mz_tri (mz_tri (g_X2_copyFrom M) (g_X2_run (mz_tv (g_X2_copyFrom M)) 5)) (g_X2_run (mz_tv (mz_tri (g_X2_copyFrom M) (g_X2_run (mz_tv (g_X2_copyFrom M)) 5))) 4))).toInt64)) hs_X9_fold wl_X9_378 rfl ⟨Nat.le_of_ble_eq_true rfl, Nat.le_of_ble_eq_true rfl⟩ ⟨Nat.le_refl _, Nat.le_refl _⟩ (Nat.le_of_ble_eq_true rfl) (by decide +kernel) ?_ rfl
    exact mz_lret C E (by decide +kernel) (rfl) (rfl)
  · refine mz_go FLX9 KLX9 C [(12, .lload_n 1), (13, .aload_n 0), (14, .iload_n 3)] (by decide +kernel) (pc' := 15) (L' := [(0, .ref 0), (1, .long a3), (3, .int i2)]) (st' := [.int i2, .ref 0, .long a3]) rfl ?_
    refine mz_callV (As := [.int i2]) (rest := [.long a3]) C E' (f_X9_many l D cA ρ hI M i2 (Int32.not_lt.mpr hi4) (mz_lec (c := 12) (d := 13) (by decide) (fun z => h1 ((mz_ltle (c := 12) (d := 13) (by decide)).mpr z)))) hy_X9_many wl_X9_375 rfl rfl rfl ⟨Nat.le_of_ble_eq_true rfl, Nat.le_of_ble_eq_true rfl⟩ ⟨Nat.le_refl _, Nat.le_refl _⟩ (Nat.le_of_ble_eq_true rfl) (by decide +kernel) ?_ rfl
    refine mz_go FLX9 KLX9 C [(18, .i2l)] (by decide +kernel) (pc' := 19) (L' := [(0, .ref 0), (1, .long a3), (3, .int i2)]) (st' := [.long ((g_X9_many M i2).toInt64), .long a3]) rfl ?_
    refine mz_callS (As := [.long a3, .long ((g_X9_many M i2).toInt64)]) (rest := []) C E' (f_X9_fold l D cA ρ hI M a3 ((g_X9_many M i2).toInt64)) hs_X9_fold wl_X9_378 rfl ⟨Nat.le_of_ble_eq_true rfl, Nat.le_of_ble_eq_true rfl⟩ ⟨Nat.le_refl _, Nat.le_refl _⟩ (Nat.le_of_ble_eq_true rfl) (by decide +kernel) ?_ rfl
    refine mz_go FLX9 KLX9 C [(22, .lstore_n 1), (23, .iinc 3 1), (26, .goto (-20))] (by decide +kernel) (pc' := 6) (L' := [(3, .int (i2 + 1)), (1, .long (g_X9_fold M a3 ((g_X9_many M i2).toInt64))), (0, .ref 0)]) (st' := []) rfl ?_
    have hb11 := hb6 (fun z => h1 ((mz_ltle (c := 12) (d := 13) (by decide)).mpr z))
    rw [show g_X9_digest_1 M i2 a3 = g_X9_fold M a3 ((g_X9_many M i2).toInt64) from rfl] at hb11
    exact mz_sub (by simp) hb11
def g_X9_wouldKnow (M : mz_Mem) (g : Int32) (m : Int32) : Int32 × mz_Mem := ((g_X0_countKnownBy (mz_tv (mz_tri (g_X2_copyFrom M) (g_X2_run (mz_tv (g_X2_copyFrom M)) m))) g), (mz_tri (g_X2_copyFrom M) (g_X2_run (mz_tv (g_X2_copyFrom M)) m)))
theorem g_X9_wouldKnow_hs (M : mz_Mem) (g : Int32) (m : Int32) : mz_hs M (g_X9_wouldKnow M g m).2 := by
  unfold g_X9_wouldKnow
  exact (g_X2_copyFrom_hs M ).trans (mz_hs_tri)

set_option maxHeartbeats 4000000 in
theorem f_X9_wouldKnow (l : Launch) (D : va_G) (cA : ClassId) (ρ : Nat → Nat) (hI : mz_I ρ mz_lay2) (M : mz_Mem) (g : Int32) (m : Int32) (v1 : ¬ g < 0) (v2 : g < (M 60 0)) (v3 : ¬ m < 1) (v4 : m ≤ 40) : mz_M l D vwCl cA ρ mz_lay2 yX9_wouldKnow cX9_wouldKnow 3 (some .int) 6 138 [.ref 0, .int g, .int m] M (some (.int (g_X9_wouldKnow M g m).1)) (g_X9_wouldKnow M g m).2 := by
  refine mz_in0 (by decide +kernel) (Nat.le_of_ble_eq_true rfl) (fun Γ C E => ?_)
  have E' := (⟨_, _, _, E⟩ : ∃ Qc mc ms, mz_E Γ Qc mc ms (mz_A ρ mz_lay2))
  refine mz_go FLX9 KLX9 C [(0, .aload_n 0), (1, .iload_n 1)] (by decide +kernel) (pc' := 2) (L' := [(0, .ref 0), (1, .int g), (2, .int m)]) (st' := [.int g, .ref 0]) rfl ?_
  refine mz_callV (As := [.int g]) (rest := []) C E' (f_X9_checkGuest l D cA ρ hI M g v1 v2) hy_X9_checkGuest wl_X9_162 rfl rfl rfl ⟨Nat.le_of_ble_eq_true rfl, Nat.le_of_ble_eq_true rfl⟩ ⟨Nat.le_refl _, Nat.le_refl _⟩ (Nat.le_of_ble_eq_true rfl) (by decide +kernel) ?_ rfl
  refine mz_go FLX9 KLX9 C [(5, .iload_n 2), (6, .bipush 40)] (by decide +kernel) (pc' := 8) (L' := [(0, .ref 0), (1, .int g), (2, .int m)]) (st' := [.int 40, .int m]) rfl ?_
  refine mz_callS (As := [.int m, .int 40]) (rest := []) C E' (f_X9_checkMinutes l D cA ρ hI M m 40 v3 v4) hs_X9_checkMinutes wl_X9_182 rfl ⟨Nat.le_of_ble_eq_true rfl, Nat.le_of_ble_eq_true rfl⟩ ⟨Nat.le_refl _, Nat.le_refl _⟩ (Nat.le_of_ble_eq_true rfl) (by decide +kernel) ?_ rfl
  refine mz_go FLX9 KLX9 C [(11, .aload_n 0), (12, .getfield 32), (15, .aload_n 0), (16, .getfield 28)] (by decide +kernel) (pc' := 19) (L' := [(0, .ref 0), (1, .int g), (2, .int m)]) (st' := [.ref 30, .ref 78]) rfl ?_
  refine mz_callV (As := [.ref 30]) (rest := []) C E' (f_X2_copyFrom l D cA ρ hI M ) hy_X2_copyFrom wl_X9_357 rfl rfl rfl ⟨Nat.le_of_ble_eq_true rfl, Nat.le_of_ble_eq_true rfl⟩ ⟨Nat.le_refl _, Nat.le_refl _⟩ (Nat.le_of_ble_eq_true rfl) (by decide +kernel) ?_ rfl
  refine mz_go FLX9 KLX9 C [(22, .aload_n 0), (23, .getfield 32), (26, .iload_n 2)] (by decide +kernel) (pc' := 27) (L' := [(0, .ref 0), (1, .int g), (2, .int m)]) (st' := [.int m, .ref 78]) rfl ?_
  refine mz_callV (As := [.int m]) (rest := []) C E' (mz_liftT hI (f_X2_run l D cA _ (mz_IT hI) (mz_tv (g_X2_copyFrom M)) m) (g_X2_run_hs (mz_tv (g_X2_copyFrom M)) m) rfl rfl) hy_X2_run wl_X9_200 rfl rfl rfl ⟨Nat.le_of_ble_eq_true rfl, Nat.le_of_ble_eq_true rfl⟩ ⟨Nat.le_refl _, Nat.le_refl _⟩ (Nat.le_of_ble_eq_true rfl) (by decide +kernel) ?_ rfl
  refine mz_go FLX9 KLX9 C [(30, .aload_n 0), (31, .getfield 32), (34, .getfield 146), (37, .iload_n 1)] (by decide +kernel) (pc' := 38) (L' := [(0, .ref 0), (1, .int g), (2, .int m)]) (st' := [.int g, .ref 108]) rfl ?_
  refine mz_callV (As := [.int g]) (rest := []) C E' (mz_liftTR hI (f_X0_countKnownBy l D cA _ (mz_IT hI) (mz_tv (mz_tri (g_X2_copyFrom M) (g_X2_run (mz_tv (g_X2_copyFrom M)) m))) g) rfl rfl) hy_X0_countKnownBy wl_X9_361 rfl rfl rfl ⟨Nat.le_of_ble_eq_true rfl, Nat.le_of_ble_eq_true rfl⟩ ⟨Nat.le_refl _, Nat.le_refl _⟩ (Nat.le_of_ble_eq_true rfl) (by decide +kernel) ?_ rfl
  exact mz_iret C E (by decide +kernel) (rfl) (rfl)
def g_X9_wouldCut (M : mz_Mem) (m : Int32) : Int32 × mz_Mem := ((g_X9_countCutsOfTrial (mz_tri (g_X2_copyFrom M) (g_X2_run (mz_tv (g_X2_copyFrom M)) m))), (mz_tri (g_X2_copyFrom M) (g_X2_run (mz_tv (g_X2_copyFrom M)) m)))
theorem g_X9_wouldCut_hs (M : mz_Mem) (m : Int32) : mz_hs M (g_X9_wouldCut M m).2 := by
  unfold g_X9_wouldCut
  exact (g_X2_copyFrom_hs M ).trans (mz_hs_tri)

set_option maxHeartbeats 4000000 in
theorem f_X9_wouldCut (l : Launch) (D : va_G) (cA : ClassId) (ρ : Nat → Nat) (hI : mz_I ρ mz_lay2) (M : mz_Mem) (m : Int32) (v1 : ¬ m < 1) (v2 : m ≤ 40) : mz_M l D vwCl cA ρ mz_lay2 yX9_wouldCut cX9_wouldCut 2 (some .int) 6 138 [.ref 0, .int m] M (some (.int (g_X9_wouldCut M m).1)) (g_X9_wouldCut M m).2 := by
  refine mz_in0 (by decide +kernel) (Nat.le_of_ble_eq_true rfl) (fun Γ C E => ?_)
  have E' := (⟨_, _, _, E⟩ : ∃ Qc mc ms, mz_E Γ Qc mc ms (mz_A ρ mz_lay2))
  refine mz_go FLX9 KLX9 C [(0, .iload_n 1), (1, .bipush 40)] (by decide +kernel) (pc' := 3) (L' := [(0, .ref 0), (1, .int m)]) (st' := [.int 40, .int m]) rfl ?_
  refine mz_callS (As := [.int m, .int 40]) (rest := []) C E' (f_X9_checkMinutes l D cA ρ hI M m 40 v1 v2) hs_X9_checkMinutes wl_X9_182 rfl ⟨Nat.le_of_ble_eq_true rfl, Nat.le_of_ble_eq_true rfl⟩ ⟨Nat.le_refl _, Nat.le_refl _⟩ (Nat.le_of_ble_eq_true rfl) (by decide +kernel) ?_ rfl
  refine mz_go FLX9 KLX9 C [(6, .aload_n 0), (7, .getfield 32), (10, .aload_n 0), (11, .getfield 28)] (by decide +kernel) (pc' := 14) (L' := [(0, .ref 0), (1, .int m)]) (st' := [.ref 30, .ref 78]) rfl ?_
  refine mz_callV (As := [.ref 30]) (rest := []) C E' (f_X2_copyFrom l D cA ρ hI M ) hy_X2_copyFrom wl_X9_357 rfl rfl rfl ⟨Nat.le_of_ble_eq_true rfl, Nat.le_of_ble_eq_true rfl⟩ ⟨Nat.le_refl _, Nat.le_refl _⟩ (Nat.le_of_ble_eq_true rfl) (by decide +kernel) ?_ rfl
  refine mz_go FLX9 KLX9 C [(17, .aload_n 0), (18, .getfield 32), (21, .iload_n 1)] (by decide +kernel) (pc' := 22) (L' := [(0, .ref 0), (1, .int m)]) (st' := [.int m, .ref 78]) rfl ?_
  refine mz_callV (As := [.int m]) (rest := []) C E' (mz_liftT hI (f_X2_run l D cA _ (mz_IT hI) (mz_tv (g_X2_copyFrom M)) m) (g_X2_run_hs (mz_tv (g_X2_copyFrom M)) m) rfl rfl) hy_X2_run wl_X9_200 rfl rfl rfl ⟨Nat.le_of_ble_eq_true rfl, Nat.le_of_ble_eq_true rfl⟩ ⟨Nat.le_refl _, Nat.le_refl _⟩ (Nat.le_of_ble_eq_true rfl) (by decide +kernel) ?_ rfl
  refine mz_go FLX9 KLX9 C [(25, .aload_n 0)] (by decide +kernel) (pc' := 26) (L' := [(0, .ref 0), (1, .int m)]) (st' := [.ref 0]) rfl ?_
  refine mz_callV (As := []) (rest := []) C E' (f_X9_countCutsOfTrial l D cA ρ hI (mz_tri (g_X2_copyFrom M) (g_X2_run (mz_tv (g_X2_copyFrom M)) m)) ) hy_X9_countCutsOfTrial wl_X9_370 rfl rfl rfl ⟨Nat.le_of_ble_eq_true rfl, Nat.le_of_ble_eq_true rfl⟩ ⟨Nat.le_refl _, Nat.le_refl _⟩ (Nat.le_of_ble_eq_true rfl) (by decide +kernel) ?_ rfl
  exact mz_iret C E (by decide +kernel) (rfl) (rfl)
def g_X9_bestHabit_1 (M : mz_Mem) (g : Int32) (m : Int32) (i2 : Int32) (a3 : Int32 × Int32 × mz_Mem) : Int32 × Int32 × mz_Mem := if (g_X9_standsForHabit a3.2.2 i2) = 0 then (a3.1, a3.2.1, a3.2.2) else if (g_X0_countKnownBy (mz_tv (mz_tri (mz_tri (g_X2_copyFrom a3.2.2) (g_X0_changeHabit (mz_tv (g_X2_copyFrom a3.2.2)) g (g_X9_habitBehind (g_X2_copyFrom a3.2.2) i2) (i2 - 10))) (g_X2_run (mz_tv (mz_tri (g_X2_copyFrom a3.2.2) (g_X0_changeHabit (mz_tv (g_X2_copyFrom a3.2.2)) g (g_X9_habitBehind (g_X2_copyFrom a3.2.2) i2) (i2 - 10)))) m))) g) ≤ a3.2.1 then (a3.1, a3.2.1, (mz_tri (mz_tri (g_X2_copyFrom a3.2.2) (g_X0_changeHabit (mz_tv (g_X2_copyFrom a3.2.2)) g (g_X9_habitBehind (g_X2_copyFrom a3.2.2) i2) (i2 - 10))) (g_X2_run (mz_tv (mz_tri (g_X2_copyFrom a3.2.2) (g_X0_changeHabit (mz_tv (g_X2_copyFrom a3.2.2)) g (g_X9_habitBehind (g_X2_copyFrom a3.2.2) i2) (i2 - 10)))) m))) else (i2, g_X0_countKnownBy (mz_tv (mz_tri (mz_tri (g_X2_copyFrom a3.2.2) (g_X0_changeHabit (mz_tv (g_X2_copyFrom a3.2.2)) g (g_X9_habitBehind (g_X2_copyFrom a3.2.2) i2) (i2 - 10))) (g_X2_run (mz_tv (mz_tri (g_X2_copyFrom a3.2.2) (g_X0_changeHabit (mz_tv (g_X2_copyFrom a3.2.2)) g (g_X9_habitBehind (g_X2_copyFrom a3.2.2) i2) (i2 - 10)))) m))) g, (mz_tri (mz_tri (g_X2_copyFrom a3.2.2) (g_X0_changeHabit (mz_tv (g_X2_copyFrom a3.2.2)) g (g_X9_habitBehind (g_X2_copyFrom a3.2.2) i2) (i2 - 10))) (g_X2_run (mz_tv (mz_tri (g_X2_copyFrom a3.2.2) (g_X0_changeHabit (mz_tv (g_X2_copyFrom a3.2.2)) g (g_X9_habitBehind (g_X2_copyFrom a3.2.2) i2) (i2 - 10)))) m)))
theorem g_X9_bestHabit_1_hs (M : mz_Mem) (g : Int32) (m : Int32) (i2 : Int32) (a3 : Int32 × Int32 × mz_Mem) : mz_hs a3.2.2 (g_X9_bestHabit_1 M g m i2 a3).2.2 := by
  unfold g_X9_bestHabit_1
  by_cases h1 : (g_X9_standsForHabit a3.2.2 i2) = 0
  · rw [if_pos h1]
    exact mz_hs_rf
  · rw [if_neg h1]
    by_cases h2 : (g_X0_countKnownBy (mz_tv (mz_tri (mz_tri (g_X2_copyFrom a3.2.2) (g_X0_changeHabit (mz_tv (g_X2_copyFrom a3.2.2)) g (g_X9_habitBehind (g_X2_copyFrom a3.2.2) i2) (i2 - 10))) (g_X2_run (mz_tv (mz_tri (g_X2_copyFrom a3.2.2) (g_X0_changeHabit (mz_tv (g_X2_copyFrom a3.2.2)) g (g_X9_habitBehind (g_X2_copyFrom a3.2.2) i2) (i2 - 10)))) m))) g) ≤ a3.2.1
    · rw [if_pos h2]
      exact ((g_X2_copyFrom_hs a3.2.2 ).trans (mz_hs_tri)).trans (mz_hs_tri)
    · rw [if_neg h2]
      exact ((g_X2_copyFrom_hs a3.2.2 ).trans (mz_hs_tri)).trans (mz_hs_tri)

def g_X9_bestHabit (M : mz_Mem) (g : Int32) (m : Int32) : Int32 × mz_Mem := (((mz_fr (10 + (M 15 0)) (g_X9_bestHabit_1 M g m) (-1, -1, M)).1), (mz_fr (10 + (M 15 0)) (g_X9_bestHabit_1 M g m) (-1, -1, M)).2.2)
theorem g_X9_bestHabit_hs (M : mz_Mem) (g : Int32) (m : Int32) : mz_hs M (g_X9_bestHabit M g m).2 := by
  unfold g_X9_bestHabit
  exact mz_hs_frp (fun (a : Int32 × Int32 × mz_Mem) => a.2.2) (fun i a => g_X9_bestHabit_1_hs M g m i a)

set_option maxHeartbeats 4000000 in
theorem f_X9_bestHabit (l : Launch) (D : va_G) (cA : ClassId) (ρ : Nat → Nat) (hI : mz_I ρ mz_lay2) (M : mz_Mem) (g : Int32) (m : Int32) (v1 : ¬ g < 0) (v2 : g < (M 60 0)) (v3 : ¬ m < 1) (v4 : m ≤ 40) : mz_M l D vwCl cA ρ mz_lay2 yX9_bestHabit cX9_bestHabit 7 (some .int) 6 138 [.ref 0, .int g, .int m] M (some (.int (g_X9_bestHabit M g m).1)) (g_X9_bestHabit M g m).2 := by
  refine mz_in0 (by decide +kernel) (Nat.le_of_ble_eq_true rfl) (fun Γ C E => ?_)
  have E' := (⟨_, _, _, E⟩ : ∃ Qc mc ms, mz_E Γ Qc mc ms (mz_A ρ mz_lay2))
  refine mz_go FLX9 KLX9 C [(0, .aload_n 0), (1, .iload_n 1)] (by decide +kernel) (pc' := 2) (L' := [(0, .ref 0), (1, .int g), (2, .int m)]) (st' := [.int g, .ref 0]) rfl ?_
  refine mz_callV (As := [.int g]) (rest := []) C E' (f_X9_checkGuest l D cA ρ hI M g v1 v2) hy_X9_checkGuest wl_X9_162 rfl rfl rfl ⟨Nat.le_of_ble_eq_true rfl, Nat.le_of_ble_eq_true rfl⟩ ⟨Nat.le_refl _, Nat.le_refl _⟩ (Nat.le_of_ble_eq_true rfl) (by decide +kernel) ?_ rfl
  refine mz_go FLX9 KLX9 C [(5, .iload_n 2), (6, .bipush 40)] (by decide +kernel) (pc' := 8) (L' := [(0, .ref 0), (1, .int g), (2, .int m)]) (st' := [.int 40, .int m]) rfl ?_
  refine mz_callS (As := [.int m, .int 40]) (rest := []) C E' (f_X9_checkMinutes l D cA ρ hI M m 40 v3 v4) hs_X9_checkMinutes wl_X9_182 rfl ⟨Nat.le_of_ble_eq_true rfl, Nat.le_of_ble_eq_true rfl⟩ ⟨Nat.le_refl _, Nat.le_refl _⟩ (Nat.le_of_ble_eq_true rfl) (by decide +kernel) ?_ rfl
  refine mz_go FLX9 KLX9 C [(11, .iconst (-1)), (12, .istore_n 3), (13, .iconst (-1)), (14, .istore 4), (16, .iconst 0), (17, .istore 5)] (by decide +kernel) (pc' := 19) (L' := [(5, .int 0), (4, .int (-1)), (3, .int (-1)), (0, .ref 0), (1, .int g), (2, .int m)]) (st' := []) rfl ?_
  refine mz_sub (L' := [(0, .ref 0), (1, .int g), (2, .int m), (3, .int (-1)), (4, .int (-1)), (5, .int 0)]) (by simp) ?_
  refine mz_loopI (10 + (M 15 0)) (g_X9_bestHabit_1 M g m) (fun (i : Int32) (a : Int32 × Int32 × mz_Mem) => mz_W Γ ρ 7 0 0 (mz_H D vwCl cA ρ mz_lay2 a.2.2) 19 [(0, .ref 0), (1, .int g), (2, .int m), (3, .int a.1), (4, .int a.2.1), (5, .int i)] []) (fun (a : Int32 × Int32 × mz_Mem) => a.2.2 15 0 = M 15 0) (-1, -1, M) rfl (fun i a h => ?_) (fun i2 a3 hi4 hv7 hx5 hb6 => ?_)
  · exact (congrFun (g_X9_bestHabit_1_hs M g m i a _ (by decide)) _).trans h
  have hv7 : a3.2.2 15 0 = M 15 0 := hv7
  refine mz_go FLX9 KLX9 C [(19, .iload 5), (21, .bipush 10), (23, .aload_n 0), (24, .getfield 19), (27, .getfield 80), (30, .iadd)] (by decide +kernel) (pc' := 31) (L' := [(0, .ref 0), (1, .int g), (2, .int m), (3, .int a3.1), (4, .int a3.2.1), (5, .int i2)]) (st' := [.int (10 + (a3.2.2 15 0)), .int i2]) rfl ?_
  refine mz_ige (off := 84) (tgt := 115) C (by decide +kernel) (by decide) (fun h1 => ?_) (fun h1 => ?_)
  · have e10 := hx5 (by rw [hv7] at h1; exact h1)
    subst e10
    refine mz_sub (L' := [(0, .ref 0), (1, .int g), (2, .int m), (3, .int ((mz_fr (10 + (M 15 0)) (g_X9_bestHabit_1 M g m) (-1, -1, M)).1)), (4, .int ((mz_fr (10 + (M 15 0)) (g_X9_bestHabit_1 M g m) (-1, -1, M)).2.1))]) (by simp) ?_
    refine mz_go FLX9 KLX9 C [(115, .iload_n 3)] (by decide +kernel) (pc' := 116) (L' := [(0, .ref 0), (1, .int g), (2, .int m), (3, .int ((mz_fr (10 + (M 15 0)) (g_X9_bestHabit_1 M g m) (-1, -1, M)).1)), (4, .int ((mz_fr (10 + (M 15 0)) (g_X9_bestHabit_1 M g m) (-1, -1, M)).2.1))]) (st' := [.int ((mz_fr (10 + (M 15 0)) (g_X9_bestHabit_1 M g m) (-1, -1, M)).1)]) rfl ?_
    exact mz_iret C E (by decide +kernel) (rfl) (rfl)
  · refine mz_go FLX9 KLX9 C [(34, .iload 5)] (by decide +kernel) (pc' := 36) (L' := [(0, .ref 0), (1, .int g), (2, .int m), (3, .int a3.1), (4, .int a3.2.1), (5, .int i2)]) (st' := [.int i2]) rfl ?_
    refine mz_callS (As := [.int i2]) (rest := []) C E' (f_X9_standsForHabit l D cA ρ hI a3.2.2 i2) hs_X9_standsForHabit wl_X9_364 rfl ⟨Nat.le_of_ble_eq_true rfl, Nat.le_of_ble_eq_true rfl⟩ ⟨Nat.le_refl _, Nat.le_refl _⟩ (Nat.le_of_ble_eq_true rfl) (by decide +kernel) ?_ rfl
    refine mz_zeq (off := 70) (tgt := 109) C (by decide +kernel) (by decide) (fun h11 => ?_) (fun h11 => ?_)
    · refine mz_go FLX9 KLX9 C [(109, .iinc 5 1), (112, .goto (-93))] (by decide +kernel) (pc' := 19) (L' := [(5, .int (i2 + 1)), (0, .ref 0), (1, .int g), (2, .int m), (3, .int a3.1), (4, .int a3.2.1)]) (st' := []) rfl ?_
      have hb12 := hb6 (by rw [hv7] at h1; exact h1)
      rw [show g_X9_bestHabit_1 M g m i2 a3 = (a3.1, a3.2.1, a3.2.2) from by unfold g_X9_bestHabit_1; rw [if_pos h11]] at hb12
      exact mz_sub (by simp) hb12
    · refine mz_go FLX9 KLX9 C [(42, .aload_n 0), (43, .getfield 32), (46, .aload_n 0), (47, .getfield 28)] (by decide +kernel) (pc' := 50) (L' := [(0, .ref 0), (1, .int g), (2, .int m), (3, .int a3.1), (4, .int a3.2.1), (5, .int i2)]) (st' := [.ref 30, .ref 78]) rfl ?_
      refine mz_callV (As := [.ref 30]) (rest := []) C E' (f_X2_copyFrom l D cA ρ hI a3.2.2 ) hy_X2_copyFrom wl_X9_357 rfl rfl rfl ⟨Nat.le_of_ble_eq_true rfl, Nat.le_of_ble_eq_true rfl⟩ ⟨Nat.le_refl _, Nat.le_refl _⟩ (Nat.le_of_ble_eq_true rfl) (by decide +kernel) ?_ rfl
      refine mz_go FLX9 KLX9 C [(53, .aload_n 0), (54, .getfield 32), (57, .getfield 146), (60, .iload_n 1), (61, .iload 5)] (by decide +kernel) (pc' := 63) (L' := [(0, .ref 0), (1, .int g), (2, .int m), (3, .int a3.1), (4, .int a3.2.1), (5, .int i2)]) (st' := [.int i2, .int g, .ref 108]) rfl ?_
      refine mz_callS (As := [.int i2]) (rest := [.int g, .ref 108]) C E' (f_X9_habitBehind l D cA ρ hI (g_X2_copyFrom a3.2.2) i2) hs_X9_habitBehind wl_X9_367 rfl ⟨Nat.le_of_ble_eq_true rfl, Nat.le_of_ble_eq_true rfl⟩ ⟨Nat.le_refl _, Nat.le_refl _⟩ (Nat.le_of_ble_eq_true rfl) (by decide +kernel) ?_ rfl
      refine mz_go FLX9 KLX9 C [(66, .iload 5), (68, .bipush 10), (70, .isub)] (by decide +kernel) (pc' := 71) (L' := [(0, .ref 0), (1, .int g), (2, .int m), (3, .int a3.1), (4, .int a3.2.1), (5, .int i2)]) (st' := [.int (i2 - 10), .int (g_X9_habitBehind (g_X2_copyFrom a3.2.2) i2), .int g, .ref 108]) rfl ?_
      refine mz_callV (As := [.int g, .int (g_X9_habitBehind (g_X2_copyFrom a3.2.2) i2), .int (i2 - 10)]) (rest := []) C E' (mz_liftT hI (f_X0_changeHabit l D cA _ (mz_IT hI) (mz_tv (g_X2_copyFrom a3.2.2)) g (g_X9_habitBehind (g_X2_copyFrom a3.2.2) i2) (i2 - 10)) (g_X0_changeHabit_hs (mz_tv (g_X2_copyFrom a3.2.2)) g (g_X9_habitBehind (g_X2_copyFrom a3.2.2) i2) (i2 - 10)) rfl rfl) hy_X0_changeHabit wl_X9_178 rfl rfl rfl ⟨Nat.le_of_ble_eq_true rfl, Nat.le_of_ble_eq_true rfl⟩ ⟨Nat.le_refl _, Nat.le_refl _⟩ (Nat.le_of_ble_eq_true rfl) (by decide +kernel) ?_ rfl
      refine mz_go FLX9 KLX9 C [(74, .aload_n 0), (75, .getfield 32), (78, .iload_n 2)] (by decide +kernel) (pc' := 79) (L' := [(0, .ref 0), (1, .int g), (2, .int m), (3, .int a3.1), (4, .int a3.2.1), (5, .int i2)]) (st' := [.int m, .ref 78]) rfl ?_
      refine mz_callV (As := [.int m]) (rest := []) C E' (mz_liftT hI (f_X2_run l D cA _ (mz_IT hI) (mz_tv (mz_tri (g_X2_copyFrom a3.2.2) (g_X0_changeHabit (mz_tv (g_X2_copyFrom a3.2.2)) g (g_X9_habitBehind (g_X2_copyFrom a3.2.2) i2) (i2 - 10)))) m) (g_X2_run_hs (mz_tv (mz_tri (g_X2_copyFrom a3.2.2) (g_X0_changeHabit (mz_tv (g_X2_copyFrom a3.2.2)) g (g_X9_habitBehind (g_X2_copyFrom a3.2.2) i2) (i2 - 10)))) m) rfl rfl) hy_X2_run wl_X9_200 rfl rfl rfl ⟨Nat.le_of_ble_eq_true rfl, Nat.le_of_ble_eq_true rfl⟩ ⟨Nat.le_refl _, Nat.le_refl _⟩ (Nat.le_of_ble_eq_true rfl) (by decide +kernel) ?_ rfl
      refine mz_go FLX9 KLX9 C [(82, .aload_n 0), (83, .getfield 32), (86, .getfield 146), (89, .iload_n 1)] (by decide +kernel) (pc' := 90) (L' := [(0, .ref 0), (1, .int g), (2, .int m), (3, .int a3.1), (4, .int a3.2.1), (5, .int i2)]) (st' := [.int g, .ref 108]) rfl ?_
      refine mz_callV (As := [.int g]) (rest := []) C E' (mz_liftTR hI (f_X0_countKnownBy l D cA _ (mz_IT hI) (mz_tv (mz_tri (mz_tri (g_X2_copyFrom a3.2.2) (g_X0_changeHabit (mz_tv (g_X2_copyFrom a3.2.2)) g (g_X9_habitBehind (g_X2_copyFrom a3.2.2) i2) (i2 - 10))) (g_X2_run (mz_tv (mz_tri (g_X2_copyFrom a3.2.2) (g_X0_changeHabit (mz_tv (g_X2_copyFrom a3.2.2)) g (g_X9_habitBehind (g_X2_copyFrom a3.2.2) i2) (i2 - 10)))) m))) g) rfl rfl) hy_X0_countKnownBy wl_X9_361 rfl rfl rfl ⟨Nat.le_of_ble_eq_true rfl, Nat.le_of_ble_eq_true rfl⟩ ⟨Nat.le_refl _, Nat.le_refl _⟩ (Nat.le_of_ble_eq_true rfl) (by decide +kernel) ?_ rfl
      refine mz_go FLX9 KLX9 C [(93, .istore 6), (95, .iload 6), (97, .iload 4)] (by decide +kernel) (pc' := 99) (L' := [(6, .int (g_X0_countKnownBy (mz_tv (mz_tri (mz_tri (g_X2_copyFrom a3.2.2) (g_X0_changeHabit (mz_tv (g_X2_copyFrom a3.2.2)) g (g_X9_habitBehind (g_X2_copyFrom a3.2.2) i2) (i2 - 10))) (g_X2_run (mz_tv (mz_tri (g_X2_copyFrom a3.2.2) (g_X0_changeHabit (mz_tv (g_X2_copyFrom a3.2.2)) g (g_X9_habitBehind (g_X2_copyFrom a3.2.2) i2) (i2 - 10)))) m))) g)), (0, .ref 0), (1, .int g), (2, .int m), (3, .int a3.1), (4, .int a3.2.1), (5, .int i2)]) (st' := [.int a3.2.1, .int (g_X0_countKnownBy (mz_tv (mz_tri (mz_tri (g_X2_copyFrom a3.2.2) (g_X0_changeHabit (mz_tv (g_X2_copyFrom a3.2.2)) g (g_X9_habitBehind (g_X2_copyFrom a3.2.2) i2) (i2 - 10))) (g_X2_run (mz_tv (mz_tri (g_X2_copyFrom a3.2.2) (g_X0_changeHabit (mz_tv (g_X2_copyFrom a3.2.2)) g (g_X9_habitBehind (g_X2_copyFrom a3.2.2) i2) (i2 - 10)))) m))) g)]) rfl ?_
      refine mz_ile (off := 10) (tgt := 109) C (by decide +kernel) (by decide) (fun h13 => ?_) (fun h13 => ?_)
      · refine mz_go FLX9 KLX9 C [(109, .iinc 5 1), (112, .goto (-93))] (by decide +kernel) (pc' := 19) (L' := [(5, .int (i2 + 1)), (6, .int (g_X0_countKnownBy (mz_tv (mz_tri (mz_tri (g_X2_copyFrom a3.2.2) (g_X0_changeHabit (mz_tv (g_X2_copyFrom a3.2.2)) g (g_X9_habitBehind (g_X2_copyFrom a3.2.2) i2) (i2 - 10))) (g_X2_run (mz_tv (mz_tri (g_X2_copyFrom a3.2.2) (g_X0_changeHabit (mz_tv (g_X2_copyFrom a3.2.2)) g (g_X9_habitBehind (g_X2_copyFrom a3.2.2) i2) (i2 - 10)))) m))) g)), (0, .ref 0), (1, .int g), (2, .int m), (3, .int a3.1), (4, .int a3.2.1)]) (st' := []) rfl ?_
        have hb14 := hb6 (by rw [hv7] at h1; exact h1)
        rw [show g_X9_bestHabit_1 M g m i2 a3 = (a3.1, a3.2.1, (mz_tri (mz_tri (g_X2_copyFrom a3.2.2) (g_X0_changeHabit (mz_tv (g_X2_copyFrom a3.2.2)) g (g_X9_habitBehind (g_X2_copyFrom a3.2.2) i2) (i2 - 10))) (g_X2_run (mz_tv (mz_tri (g_X2_copyFrom a3.2.2) (g_X0_changeHabit (mz_tv (g_X2_copyFrom a3.2.2)) g (g_X9_habitBehind (g_X2_copyFrom a3.2.2) i2) (i2 - 10)))) m))) from by unfold g_X9_bestHabit_1; rw [if_neg h11, if_pos h13]] at hb14
        exact mz_sub (by simp) hb14
      · refine mz_go FLX9 KLX9 C [(102, .iload 5), (104, .istore_n 3), (105, .iload 6), (107, .istore 4), (109, .iinc 5 1), (112, .goto (-93))] (by decide +kernel) (pc' := 19) (L' := [(5, .int (i2 + 1)), (4, .int (g_X0_countKnownBy (mz_tv (mz_tri (mz_tri (g_X2_copyFrom a3.2.2) (g_X0_changeHabit (mz_tv (g_X2_copyFrom a3.2.2)) g (g_X9_habitBehind (g_X2_copyFrom a3.2.2) i2) (i2 - 10))) (g_X2_run (mz_tv (mz_tri (g_X2_copyFrom a3.2.2) (g_X0_changeHabit (mz_tv (g_X2_copyFrom a3.2.2)) g (g_X9_habitBehind (g_X2_copyFrom a3.2.2) i2) (i2 - 10)))) m))) g)), (3, .int i2), (6, .int (g_X0_countKnownBy (mz_tv (mz_tri (mz_tri (g_X2_copyFrom a3.2.2) (g_X0_changeHabit (mz_tv (g_X2_copyFrom a3.2.2)) g (g_X9_habitBehind (g_X2_copyFrom a3.2.2) i2) (i2 - 10))) (g_X2_run (mz_tv (mz_tri (g_X2_copyFrom a3.2.2) (g_X0_changeHabit (mz_tv (g_X2_copyFrom a3.2.2)) g (g_X9_habitBehind (g_X2_copyFrom a3.2.2) i2) (i2 - 10)))) m))) g)), (0, .ref 0), (1, .int g), (2, .int m)]) (st' := []) rfl ?_
        have hb15 := hb6 (by rw [hv7] at h1; exact h1)
        rw [show g_X9_bestHabit_1 M g m i2 a3 = (i2, g_X0_countKnownBy (mz_tv (mz_tri (mz_tri (g_X2_copyFrom a3.2.2) (g_X0_changeHabit (mz_tv (g_X2_copyFrom a3.2.2)) g (g_X9_habitBehind (g_X2_copyFrom a3.2.2) i2) (i2 - 10))) (g_X2_run (mz_tv (mz_tri (g_X2_copyFrom a3.2.2) (g_X0_changeHabit (mz_tv (g_X2_copyFrom a3.2.2)) g (g_X9_habitBehind (g_X2_copyFrom a3.2.2) i2) (i2 - 10)))) m))) g, (mz_tri (mz_tri (g_X2_copyFrom a3.2.2) (g_X0_changeHabit (mz_tv (g_X2_copyFrom a3.2.2)) g (g_X9_habitBehind (g_X2_copyFrom a3.2.2) i2) (i2 - 10))) (g_X2_run (mz_tv (mz_tri (g_X2_copyFrom a3.2.2) (g_X0_changeHabit (mz_tv (g_X2_copyFrom a3.2.2)) g (g_X9_habitBehind (g_X2_copyFrom a3.2.2) i2) (i2 - 10)))) m))) from by unfold g_X9_bestHabit_1; rw [if_neg h11, if_neg h13]] at hb15
        exact mz_sub (by simp) hb15
end
section
def g_X9_room (M : mz_Mem) (q : Int32) : Int32 × mz_Mem := (((g_X4_addRoom M q).1), (mz_act M (g_X4_addRoom M q).2))
set_option maxHeartbeats 4000000 in
theorem f_X9_room (l : Launch) (D : va_G) (cA : ClassId) (ρ : Nat → Nat) (hI : mz_I ρ mz_lay2) (M : mz_Mem) (q : Int32) (v1 : ¬ q < 1) (v2 : q ≤ 30) (v3 : (M 1 0) < 8) : mz_M l D vwCl cA ρ mz_lay2 yX9_room cX9_room 2 (some .int) 3 67 [.ref 0, .int q] M (some (.int (g_X9_room M q).1)) (g_X9_room M q).2 := by
  refine mz_in0 (by decide +kernel) (Nat.le_of_ble_eq_true rfl) (fun Γ C E => ?_)
  have E' := (⟨_, _, _, E⟩ : ∃ Qc mc ms, mz_E Γ Qc mc ms (mz_A ρ mz_lay2))
  refine mz_go FLX9 KLX9 C [(0, .iload_n 1), (1, .iconst 1)] (by decide +kernel) (pc' := 2) (L' := [(0, .ref 0), (1, .int q)]) (st' := [.int 1, .int q]) rfl ?_
  refine mz_ilt (off := 9) (tgt := 11) C (by decide +kernel) (by decide) (fun h1 => absurd h1 v1) (fun _ => ?_)
  refine mz_go FLX9 KLX9 C [(5, .iload_n 1), (6, .bipush 30)] (by decide +kernel) (pc' := 8) (L' := [(0, .ref 0), (1, .int q)]) (st' := [.int 30, .int q]) rfl ?_
  refine mz_ile (off := 13) (tgt := 21) C (by decide +kernel) (by decide) (fun _ => ?_) (fun h2 => absurd v2 h2)
  refine mz_go FLX9 KLX9 C [(21, .aload_n 0), (22, .getfield 10), (25, .getfield 42), (28, .bipush 8)] (by decide +kernel) (pc' := 30) (L' := [(0, .ref 0), (1, .int q)]) (st' := [.int 8, .int (M 1 0)]) rfl ?_
  refine mz_ilt (off := 13) (tgt := 43) C (by decide +kernel) (by decide) (fun _ => ?_) (fun h3 => absurd v3 h3)
  refine mz_go FLX9 KLX9 C [(43, .aload_n 0), (44, .getfield 10), (47, .iload_n 1)] (by decide +kernel) (pc' := 48) (L' := [(0, .ref 0), (1, .int q)]) (st' := [.int q, .ref 1]) rfl ?_
  refine mz_callV (As := [.int q]) (rest := []) C E' (mz_liftA hI (f_X4_addRoom l D cA ρ (mz_I1 hI) M q)) hy_X4_addRoom wl_X9_51 rfl rfl rfl ⟨Nat.le_of_ble_eq_true rfl, Nat.le_of_ble_eq_true rfl⟩ ⟨Nat.le_refl _, Nat.le_refl _⟩ (Nat.le_of_ble_eq_true rfl) (by decide +kernel) ?_ rfl
  exact mz_iret C E (by decide +kernel) (rfl) (rfl)
def g_X9_door (M : mz_Mem) (a : Int32) (b : Int32) (q : Int32) : Int32 × mz_Mem := (((g_X4_addDoor M a b q).1), (mz_act M (g_X4_addDoor M a b q).2))
set_option maxHeartbeats 4000000 in
theorem f_X9_door (l : Launch) (D : va_G) (cA : ClassId) (ρ : Nat → Nat) (hI : mz_I ρ mz_lay2) (M : mz_Mem) (a : Int32) (b : Int32) (q : Int32) (v1 : ¬ a < 0) (v2 : a < (M 1 0)) (v3 : ¬ b < 0) (v4 : b < (M 1 0)) (v5 : ¬ a = b) (v6 : ¬ q < 1) (v7 : q ≤ 6) (v8 : ¬ 14 ≤ (M 1 1)) (v9 : (mz_gg 64 (M 6 0) (M 8) a b) = (-1)) : mz_M l D vwCl cA ρ mz_lay2 yX9_door cX9_door 4 (some .int) 5 121 [.ref 0, .int a, .int b, .int q] M (some (.int (g_X9_door M a b q).1)) (g_X9_door M a b q).2 := by
  refine mz_in0 (by decide +kernel) (Nat.le_of_ble_eq_true rfl) (fun Γ C E => ?_)
  have E' := (⟨_, _, _, E⟩ : ∃ Qc mc ms, mz_E Γ Qc mc ms (mz_A ρ mz_lay2))
  refine mz_go FLX9 KLX9 C [(0, .aload_n 0), (1, .iload_n 1)] (by decide +kernel) (pc' := 2) (L' := [(0, .ref 0), (1, .int a), (2, .int b), (3, .int q)]) (st' := [.int a, .ref 0]) rfl ?_
  refine mz_callV (As := [.int a]) (rest := []) C E' (f_X9_checkRoom l D cA ρ hI M a v1 v2) hy_X9_checkRoom wl_X9_55 rfl rfl rfl ⟨Nat.le_of_ble_eq_true rfl, Nat.le_of_ble_eq_true rfl⟩ ⟨Nat.le_refl _, Nat.le_refl _⟩ (Nat.le_of_ble_eq_true rfl) (by decide +kernel) ?_ rfl
  refine mz_go FLX9 KLX9 C [(5, .aload_n 0), (6, .iload_n 2)] (by decide +kernel) (pc' := 7) (L' := [(0, .ref 0), (1, .int a), (2, .int b), (3, .int q)]) (st' := [.int b, .ref 0]) rfl ?_
  refine mz_callV (As := [.int b]) (rest := []) C E' (f_X9_checkRoom l D cA ρ hI M b v3 v4) hy_X9_checkRoom wl_X9_55 rfl rfl rfl ⟨Nat.le_of_ble_eq_true rfl, Nat.le_of_ble_eq_true rfl⟩ ⟨Nat.le_refl _, Nat.le_refl _⟩ (Nat.le_of_ble_eq_true rfl) (by decide +kernel) ?_ rfl
  refine mz_go FLX9 KLX9 C [(10, .iload_n 1), (11, .iload_n 2)] (by decide +kernel) (pc' := 12) (L' := [(0, .ref 0), (1, .int a), (2, .int b), (3, .int q)]) (st' := [.int b, .int a]) rfl ?_
  refine mz_ieq (off := 14) (tgt := 26) C (by decide +kernel) (by decide) (fun h1 => absurd h1 v5) (fun _ => ?_)
  refine mz_go FLX9 KLX9 C [(15, .iload_n 3), (16, .iconst 1)] (by decide +kernel) (pc' := 17) (L' := [(0, .ref 0), (1, .int a), (2, .int b), (3, .int q)]) (st' := [.int 1, .int q]) rfl ?_
  refine mz_ilt (off := 9) (tgt := 26) C (by decide +kernel) (by decide) (fun h2 => absurd h2 v6) (fun _ => ?_)
  refine mz_go FLX9 KLX9 C [(20, .iload_n 3), (21, .bipush 6)] (by decide +kernel) (pc' := 23) (L' := [(0, .ref 0), (1, .int a), (2, .int b), (3, .int q)]) (st' := [.int 6, .int q]) rfl ?_
  refine mz_ile (off := 13) (tgt := 36) C (by decide +kernel) (by decide) (fun _ => ?_) (fun h3 => absurd v7 h3)
  refine mz_go FLX9 KLX9 C [(36, .aload_n 0), (37, .getfield 10), (40, .getfield 61), (43, .bipush 14)] (by decide +kernel) (pc' := 45) (L' := [(0, .ref 0), (1, .int a), (2, .int b), (3, .int q)]) (st' := [.int 14, .int (M 1 1)]) rfl ?_
  refine mz_ige (off := 19) (tgt := 64) C (by decide +kernel) (by decide) (fun h4 => absurd h4 v8) (fun _ => ?_)
  refine mz_go FLX9 KLX9 C [(48, .aload_n 0), (49, .getfield 10), (52, .getfield 64), (55, .iload_n 1), (56, .iload_n 2)] (by decide +kernel) (pc' := 57) (L' := [(0, .ref 0), (1, .int a), (2, .int b), (3, .int q)]) (st' := [.int b, .int a, .ref 6]) rfl ?_
  refine mz_callV (As := [.int a, .int b]) (rest := []) C E' (f_Grid_get l D cA ρ hI (g := 6) (r := 7) (a := 8) (n := 64) rfl rfl rfl (by decide) M a b) hy_X3_get wl_X9_68 rfl rfl rfl ⟨Nat.le_of_ble_eq_true rfl, Nat.le_of_ble_eq_true rfl⟩ ⟨Nat.le_refl _, Nat.le_refl _⟩ (Nat.le_of_ble_eq_true rfl) (by decide +kernel) ?_ rfl
  refine mz_go FLX9 KLX9 C [(60, .iconst (-1))] (by decide +kernel) (pc' := 61) (L' := [(0, .ref 0), (1, .int a), (2, .int b), (3, .int q)]) (st' := [.int (-1), .int (mz_gg 64 (M 6 0) (M 8) a b)]) rfl ?_
  refine mz_ieq (off := 13) (tgt := 74) C (by decide +kernel) (by decide) (fun _ => ?_) (fun h5 => absurd v9 h5)
  refine mz_go FLX9 KLX9 C [(74, .aload_n 0), (75, .getfield 10), (78, .iload_n 1), (79, .iload_n 2), (80, .iload_n 3)] (by decide +kernel) (pc' := 81) (L' := [(0, .ref 0), (1, .int a), (2, .int b), (3, .int q)]) (st' := [.int q, .int b, .int a, .ref 1]) rfl ?_
  refine mz_callV (As := [.int a, .int b, .int q]) (rest := []) C E' (mz_liftA hI (f_X4_addDoor l D cA ρ (mz_I1 hI) M a b q)) hy_X4_addDoor wl_X9_76 rfl rfl rfl ⟨Nat.le_of_ble_eq_true rfl, Nat.le_of_ble_eq_true rfl⟩ ⟨Nat.le_refl _, Nat.le_refl _⟩ (Nat.le_of_ble_eq_true rfl) (by decide +kernel) ?_ rfl
  exact mz_iret C E (by decide +kernel) (rfl) (rfl)
def g_X9_track (M : mz_Mem) (h : Int32) : Int32 × mz_Mem := (((g_X7_addTrack M h).1), (mz_act (mz_act M (g_X7_addTrack M h).2) (g_X1_enter (mz_act M (g_X7_addTrack M h).2) ((g_X7_addTrack M h).1) h)))
set_option maxHeartbeats 4000000 in
theorem f_X9_track (l : Launch) (D : va_G) (cA : ClassId) (ρ : Nat → Nat) (hI : mz_I ρ mz_lay2) (M : mz_Mem) (h : Int32) (v1 : ¬ h < 0) (v2 : h < (M 1 0)) (v3 : (M 15 0) < 5) : mz_M l D vwCl cA ρ mz_lay2 yX9_track cX9_track 3 (some .int) 2 44 [.ref 0, .int h] M (some (.int (g_X9_track M h).1)) (g_X9_track M h).2 := by
  refine mz_in0 (by decide +kernel) (Nat.le_of_ble_eq_true rfl) (fun Γ C E => ?_)
  have E' := (⟨_, _, _, E⟩ : ∃ Qc mc ms, mz_E Γ Qc mc ms (mz_A ρ mz_lay2))
  refine mz_go FLX9 KLX9 C [(0, .aload_n 0), (1, .iload_n 1)] (by decide +kernel) (pc' := 2) (L' := [(0, .ref 0), (1, .int h)]) (st' := [.int h, .ref 0]) rfl ?_
  refine mz_callV (As := [.int h]) (rest := []) C E' (f_X9_checkRoom l D cA ρ hI M h v1 v2) hy_X9_checkRoom wl_X9_55 rfl rfl rfl ⟨Nat.le_of_ble_eq_true rfl, Nat.le_of_ble_eq_true rfl⟩ ⟨Nat.le_refl _, Nat.le_refl _⟩ (Nat.le_of_ble_eq_true rfl) (by decide +kernel) ?_ rfl
  refine mz_go FLX9 KLX9 C [(5, .aload_n 0), (6, .getfield 19), (9, .getfield 80), (12, .iconst 5)] (by decide +kernel) (pc' := 13) (L' := [(0, .ref 0), (1, .int h)]) (st' := [.int 5, .int (M 15 0)]) rfl ?_
  refine mz_ilt (off := 13) (tgt := 26) C (by decide +kernel) (by decide) (fun _ => ?_) (fun h1 => absurd v3 h1)
  refine mz_go FLX9 KLX9 C [(26, .aload_n 0), (27, .getfield 19), (30, .iload_n 1)] (by decide +kernel) (pc' := 31) (L' := [(0, .ref 0), (1, .int h)]) (st' := [.int h, .ref 15]) rfl ?_
  refine mz_callV (As := [.int h]) (rest := []) C E' (mz_liftA hI (f_X7_addTrack l D cA ρ (mz_I1 hI) M h)) hy_X7_addTrack wl_X9_85 rfl rfl rfl ⟨Nat.le_of_ble_eq_true rfl, Nat.le_of_ble_eq_true rfl⟩ ⟨Nat.le_refl _, Nat.le_refl _⟩ (Nat.le_of_ble_eq_true rfl) (by decide +kernel) ?_ rfl
  refine mz_go FLX9 KLX9 C [(34, .istore_n 2), (35, .aload_n 0), (36, .getfield 28), (39, .getfield 88), (42, .iload_n 2), (43, .iload_n 1)] (by decide +kernel) (pc' := 44) (L' := [(2, .int ((g_X7_addTrack M h).1)), (0, .ref 0), (1, .int h)]) (st' := [.int h, .int ((g_X7_addTrack M h).1), .ref 33]) rfl ?_
  refine mz_callV (As := [.int ((g_X7_addTrack M h).1), .int h]) (rest := []) C E' (mz_liftA hI (f_X1_enter l D cA ρ (mz_I1 hI) (mz_act M (g_X7_addTrack M h).2) ((g_X7_addTrack M h).1) h)) hy_X1_enter wl_X9_92 rfl rfl rfl ⟨Nat.le_of_ble_eq_true rfl, Nat.le_of_ble_eq_true rfl⟩ ⟨Nat.le_refl _, Nat.le_refl _⟩ (Nat.le_of_ble_eq_true rfl) (by decide +kernel) ?_ rfl
  refine mz_go FLX9 KLX9 C [(47, .iload_n 2)] (by decide +kernel) (pc' := 48) (L' := [(2, .int ((g_X7_addTrack M h).1)), (0, .ref 0), (1, .int h)]) (st' := [.int ((g_X7_addTrack M h).1)]) rfl ?_
  exact mz_iret C E (by decide +kernel) (rfl) (rfl)
def g_X9_prop (M : mz_Mem) (h : Int32) : Int32 × mz_Mem := (((g_X7_addProp M h).1), (mz_act (mz_act M (g_X7_addProp M h).2) (g_X5_lay (mz_act M (g_X7_addProp M h).2) ((g_X7_addProp M h).1) h)))
set_option maxHeartbeats 4000000 in
theorem f_X9_prop (l : Launch) (D : va_G) (cA : ClassId) (ρ : Nat → Nat) (hI : mz_I ρ mz_lay2) (M : mz_Mem) (h : Int32) (v1 : ¬ h < 0) (v2 : h < (M 1 0)) (v3 : (M 15 1) < 4) : mz_M l D vwCl cA ρ mz_lay2 yX9_prop cX9_prop 3 (some .int) 2 44 [.ref 0, .int h] M (some (.int (g_X9_prop M h).1)) (g_X9_prop M h).2 := by
  refine mz_in0 (by decide +kernel) (Nat.le_of_ble_eq_true rfl) (fun Γ C E => ?_)
  have E' := (⟨_, _, _, E⟩ : ∃ Qc mc ms, mz_E Γ Qc mc ms (mz_A ρ mz_lay2))
  refine mz_go FLX9 KLX9 C [(0, .aload_n 0), (1, .iload_n 1)] (by decide +kernel) (pc' := 2) (L' := [(0, .ref 0), (1, .int h)]) (st' := [.int h, .ref 0]) rfl ?_
  refine mz_callV (As := [.int h]) (rest := []) C E' (f_X9_checkRoom l D cA ρ hI M h v1 v2) hy_X9_checkRoom wl_X9_55 rfl rfl rfl ⟨Nat.le_of_ble_eq_true rfl, Nat.le_of_ble_eq_true rfl⟩ ⟨Nat.le_refl _, Nat.le_refl _⟩ (Nat.le_of_ble_eq_true rfl) (by decide +kernel) ?_ rfl
  refine mz_go FLX9 KLX9 C [(5, .aload_n 0), (6, .getfield 19), (9, .getfield 98), (12, .iconst 4)] (by decide +kernel) (pc' := 13) (L' := [(0, .ref 0), (1, .int h)]) (st' := [.int 4, .int (M 15 1)]) rfl ?_
  refine mz_ilt (off := 13) (tgt := 26) C (by decide +kernel) (by decide) (fun _ => ?_) (fun h1 => absurd v3 h1)
  refine mz_go FLX9 KLX9 C [(26, .aload_n 0), (27, .getfield 19), (30, .iload_n 1)] (by decide +kernel) (pc' := 31) (L' := [(0, .ref 0), (1, .int h)]) (st' := [.int h, .ref 15]) rfl ?_
  refine mz_callV (As := [.int h]) (rest := []) C E' (mz_liftA hI (f_X7_addProp l D cA ρ (mz_I1 hI) M h)) hy_X7_addProp wl_X9_103 rfl rfl rfl ⟨Nat.le_of_ble_eq_true rfl, Nat.le_of_ble_eq_true rfl⟩ ⟨Nat.le_refl _, Nat.le_refl _⟩ (Nat.le_of_ble_eq_true rfl) (by decide +kernel) ?_ rfl
  refine mz_go FLX9 KLX9 C [(34, .istore_n 2), (35, .aload_n 0), (36, .getfield 28), (39, .getfield 106), (42, .iload_n 2), (43, .iload_n 1)] (by decide +kernel) (pc' := 44) (L' := [(2, .int ((g_X7_addProp M h).1)), (0, .ref 0), (1, .int h)]) (st' := [.int h, .int ((g_X7_addProp M h).1), .ref 51]) rfl ?_
  refine mz_callV (As := [.int ((g_X7_addProp M h).1), .int h]) (rest := []) C E' (mz_liftA hI (f_X5_lay l D cA ρ (mz_I1 hI) (mz_act M (g_X7_addProp M h).2) ((g_X7_addProp M h).1) h)) hy_X5_lay wl_X9_109 rfl rfl rfl ⟨Nat.le_of_ble_eq_true rfl, Nat.le_of_ble_eq_true rfl⟩ ⟨Nat.le_refl _, Nat.le_refl _⟩ (Nat.le_of_ble_eq_true rfl) (by decide +kernel) ?_ rfl
  refine mz_go FLX9 KLX9 C [(47, .iload_n 2)] (by decide +kernel) (pc' := 48) (L' := [(2, .int ((g_X7_addProp M h).1)), (0, .ref 0), (1, .int h)]) (st' := [.int ((g_X7_addProp M h).1)]) rfl ?_
  exact mz_iret C E (by decide +kernel) (rfl) (rfl)
def g_X9_guest (M : mz_Mem) (r : Int32) : Int32 × mz_Mem := (((g_X0_enter M r).1), (mz_act M (g_X0_enter M r).2))
set_option maxHeartbeats 4000000 in
theorem f_X9_guest (l : Launch) (D : va_G) (cA : ClassId) (ρ : Nat → Nat) (hI : mz_I ρ mz_lay2) (M : mz_Mem) (r : Int32) (v1 : ¬ r < 0) (v2 : r < (M 1 0)) (v3 : ¬ 12 ≤ (M 60 0)) (v4 : (g_X2_isFull M r) = 0) : mz_M l D vwCl cA ρ mz_lay2 yX9_guest cX9_guest 2 (some .int) 3 67 [.ref 0, .int r] M (some (.int (g_X9_guest M r).1)) (g_X9_guest M r).2 := by
  refine mz_in0 (by decide +kernel) (Nat.le_of_ble_eq_true rfl) (fun Γ C E => ?_)
  have E' := (⟨_, _, _, E⟩ : ∃ Qc mc ms, mz_E Γ Qc mc ms (mz_A ρ mz_lay2))
  refine mz_go FLX9 KLX9 C [(0, .aload_n 0), (1, .iload_n 1)] (by decide +kernel) (pc' := 2) (L' := [(0, .ref 0), (1, .int r)]) (st' := [.int r, .ref 0]) rfl ?_
  refine mz_callV (As := [.int r]) (rest := []) C E' (f_X9_checkRoom l D cA ρ hI M r v1 v2) hy_X9_checkRoom wl_X9_55 rfl rfl rfl ⟨Nat.le_of_ble_eq_true rfl, Nat.le_of_ble_eq_true rfl⟩ ⟨Nat.le_refl _, Nat.le_refl _⟩ (Nat.le_of_ble_eq_true rfl) (by decide +kernel) ?_ rfl
  refine mz_go FLX9 KLX9 C [(5, .aload_n 0), (6, .getfield 28), (9, .getfield 146), (12, .getfield 150), (15, .bipush 12)] (by decide +kernel) (pc' := 17) (L' := [(0, .ref 0), (1, .int r)]) (st' := [.int 12, .int (M 60 0)]) rfl ?_
  refine mz_ige (off := 14) (tgt := 31) C (by decide +kernel) (by decide) (fun h1 => absurd h1 v3) (fun _ => ?_)
  refine mz_go FLX9 KLX9 C [(20, .aload_n 0), (21, .getfield 28), (24, .iload_n 1)] (by decide +kernel) (pc' := 25) (L' := [(0, .ref 0), (1, .int r)]) (st' := [.int r, .ref 30]) rfl ?_
  refine mz_callV (As := [.int r]) (rest := []) C E' (mz_liftAR hI (f_X2_isFull l D cA ρ (mz_I1 hI) M r)) hy_X2_isFull wl_X9_155 rfl rfl rfl ⟨Nat.le_of_ble_eq_true rfl, Nat.le_of_ble_eq_true rfl⟩ ⟨Nat.le_refl _, Nat.le_refl _⟩ (Nat.le_of_ble_eq_true rfl) (by decide +kernel) ?_ rfl
  refine mz_zeq (off := 13) (tgt := 41) C (by decide +kernel) (by decide) (fun _ => ?_) (fun h2 => absurd v4 h2)
  refine mz_go FLX9 KLX9 C [(41, .aload_n 0), (42, .getfield 28), (45, .getfield 146), (48, .iload_n 1)] (by decide +kernel) (pc' := 49) (L' := [(0, .ref 0), (1, .int r)]) (st' := [.int r, .ref 60]) rfl ?_
  refine mz_callV (As := [.int r]) (rest := []) C E' (mz_liftA hI (f_X0_enter l D cA ρ (mz_I1 hI) M r)) hy_X0_enter wl_X9_160 rfl rfl rfl ⟨Nat.le_of_ble_eq_true rfl, Nat.le_of_ble_eq_true rfl⟩ ⟨Nat.le_refl _, Nat.le_refl _⟩ (Nat.le_of_ble_eq_true rfl) (by decide +kernel) ?_ rfl
  exact mz_iret C E (by decide +kernel) (rfl) (rfl)
def g_X9_pass (M : mz_Mem) (m : Int32) : Int32 × mz_Mem := (((mz_sum 12 ((mz_act M (g_X2_run M m)) 48)) - (mz_sum 12 (M 48))), (mz_act M (g_X2_run M m)))
theorem g_X9_pass_hs (M : mz_Mem) (m : Int32) : mz_hs M (g_X9_pass M m).2 := by
  unfold g_X9_pass
  exact mz_hs_act (g_X2_run_hs M m)

set_option maxHeartbeats 4000000 in
theorem f_X9_pass (l : Launch) (D : va_G) (cA : ClassId) (ρ : Nat → Nat) (hI : mz_I ρ mz_lay2) (M : mz_Mem) (m : Int32) (v1 : ¬ m < 1) (v2 : m ≤ 60) (v3 : ((M 30 7) + m) ≤ 600) : mz_M l D vwCl cA ρ mz_lay2 yX9_pass cX9_pass 3 (some .int) 6 138 [.ref 0, .int m] M (some (.int (g_X9_pass M m).1)) (g_X9_pass M m).2 := by
  refine mz_in0 (by decide +kernel) (Nat.le_of_ble_eq_true rfl) (fun Γ C E => ?_)
  have E' := (⟨_, _, _, E⟩ : ∃ Qc mc ms, mz_E Γ Qc mc ms (mz_A ρ mz_lay2))
  refine mz_go FLX9 KLX9 C [(0, .iload_n 1), (1, .bipush 60)] (by decide +kernel) (pc' := 3) (L' := [(0, .ref 0), (1, .int m)]) (st' := [.int 60, .int m]) rfl ?_
  refine mz_callS (As := [.int m, .int 60]) (rest := []) C E' (f_X9_checkMinutes l D cA ρ hI M m 60 v1 v2) hs_X9_checkMinutes wl_X9_182 rfl ⟨Nat.le_of_ble_eq_true rfl, Nat.le_of_ble_eq_true rfl⟩ ⟨Nat.le_refl _, Nat.le_refl _⟩ (Nat.le_of_ble_eq_true rfl) (by decide +kernel) ?_ rfl
  refine mz_go FLX9 KLX9 C [(6, .aload_n 0), (7, .getfield 28), (10, .getfield 126), (13, .iload_n 1), (14, .iadd), (15, .sipush 600)] (by decide +kernel) (pc' := 18) (L' := [(0, .ref 0), (1, .int m)]) (st' := [.int 600, .int ((M 30 7) + m)]) rfl ?_
  refine mz_ile (off := 13) (tgt := 31) C (by decide +kernel) (by decide) (fun _ => ?_) (fun h1 => absurd v3 h1)
  refine mz_go FLX9 KLX9 C [(31, .aload_n 0), (32, .getfield 28), (35, .getfield 187), (38, .getfield 191)] (by decide +kernel) (pc' := 41) (L' := [(0, .ref 0), (1, .int m)]) (st' := [.ref 47]) rfl ?_
  refine mz_callV (As := []) (rest := []) C E' (f_Row_sum l D cA ρ hI (r := 47) (a := 48) (n := 12) rfl rfl (by decide) M ) hy_X6_sum wl_X9_196 rfl rfl rfl ⟨Nat.le_of_ble_eq_true rfl, Nat.le_of_ble_eq_true rfl⟩ ⟨Nat.le_refl _, Nat.le_refl _⟩ (Nat.le_of_ble_eq_true rfl) (by decide +kernel) ?_ rfl
  refine mz_go FLX9 KLX9 C [(44, .istore_n 2), (45, .aload_n 0), (46, .getfield 28), (49, .iload_n 1)] (by decide +kernel) (pc' := 50) (L' := [(2, .int (mz_sum 12 (M 48))), (0, .ref 0), (1, .int m)]) (st' := [.int m, .ref 30]) rfl ?_
  refine mz_callV (As := [.int m]) (rest := []) C E' (mz_liftA hI (f_X2_run l D cA ρ (mz_I1 hI) M m)) hy_X2_run wl_X9_200 rfl rfl rfl ⟨Nat.le_of_ble_eq_true rfl, Nat.le_of_ble_eq_true rfl⟩ ⟨Nat.le_refl _, Nat.le_refl _⟩ (Nat.le_of_ble_eq_true rfl) (by decide +kernel) ?_ rfl
  refine mz_go FLX9 KLX9 C [(53, .aload_n 0), (54, .getfield 28), (57, .getfield 187), (60, .getfield 191)] (by decide +kernel) (pc' := 63) (L' := [(2, .int (mz_sum 12 (M 48))), (0, .ref 0), (1, .int m)]) (st' := [.ref 47]) rfl ?_
  refine mz_callV (As := []) (rest := []) C E' (f_Row_sum l D cA ρ hI (r := 47) (a := 48) (n := 12) rfl rfl (by decide) (mz_act M (g_X2_run M m)) ) hy_X6_sum wl_X9_196 rfl rfl rfl ⟨Nat.le_of_ble_eq_true rfl, Nat.le_of_ble_eq_true rfl⟩ ⟨Nat.le_refl _, Nat.le_refl _⟩ (Nat.le_of_ble_eq_true rfl) (by decide +kernel) ?_ rfl
  refine mz_go FLX9 KLX9 C [(66, .iload_n 2), (67, .isub)] (by decide +kernel) (pc' := 68) (L' := [(2, .int (mz_sum 12 (M 48))), (0, .ref 0), (1, .int m)]) (st' := [.int ((mz_sum 12 ((mz_act M (g_X2_run M m)) 48)) - (mz_sum 12 (M 48)))]) rfl ?_
  exact mz_iret C E (by decide +kernel) (rfl) (rfl)
end
section
def g_X9_scene (M : mz_Mem) (r : Int32) (s : Int32) (d : Int32) (q : Int32) (p : Int32) : Int32 × mz_Mem := if p = (-1) then (((g_X7_addScene M r s d q p).1), (mz_act M (g_X7_addScene M r s d q p).2)) else (((g_X7_addScene M r s d q p).1), (mz_act M (g_X7_addScene M r s d q p).2))
set_option maxHeartbeats 4000000 in
theorem f_X9_scene (l : Launch) (D : va_G) (cA : ClassId) (ρ : Nat → Nat) (hI : mz_I ρ mz_lay2) (M : mz_Mem) (r : Int32) (s : Int32) (d : Int32) (q : Int32) (p : Int32) (v1 : ¬ r < 0) (v2 : r < (M 1 0)) (v3 : ¬ s < 0) (v4 : ¬ 18 < s) (v5 : ¬ d < 1) (v6 : ¬ 8 < d) (v7 : (s + d) ≤ 20) (v8 : ¬ (g_X7_areTracks M q) = 0) (v9 : ¬ 0 < (M 30 7)) (v10 : ¬ 12 ≤ (M 15 2)) (v11 : (g_X7_overlapsSceneOf M q s d) = 0) (v12 : (g_X1_anyIsPlayed M) = 0) (u1 : ¬ p = (-1) → ¬ p < 0) (u2 : ¬ p = (-1) → p < (M 15 1)) : mz_M l D vwCl cA ρ mz_lay2 yX9_scene cX9_scene 6 (some .int) 2 48 [.ref 0, .int r, .int s, .int d, .int q, .int p] M (some (.int (g_X9_scene M r s d q p).1)) (g_X9_scene M r s d q p).2 := by
  refine mz_in0 (by decide +kernel) (Nat.le_of_ble_eq_true rfl) (fun Γ C E => ?_)
  have E' := (⟨_, _, _, E⟩ : ∃ Qc mc ms, mz_E Γ Qc mc ms (mz_A ρ mz_lay2))
  refine mz_go FLX9 KLX9 C [(0, .aload_n 0), (1, .iload_n 1)] (by decide +kernel) (pc' := 2) (L' := [(0, .ref 0), (1, .int r), (2, .int s), (3, .int d), (4, .int q), (5, .int p)]) (st' := [.int r, .ref 0]) rfl ?_
  refine mz_callV (As := [.int r]) (rest := []) C E' (f_X9_checkRoom l D cA ρ hI M r v1 v2) hy_X9_checkRoom wl_X9_55 rfl rfl rfl ⟨Nat.le_of_ble_eq_true rfl, Nat.le_of_ble_eq_true rfl⟩ ⟨Nat.le_refl _, Nat.le_refl _⟩ (Nat.le_of_ble_eq_true rfl) (by decide +kernel) ?_ rfl
  refine mz_go FLX9 KLX9 C [(5, .iload 5), (7, .iconst (-1))] (by decide +kernel) (pc' := 8) (L' := [(0, .ref 0), (1, .int r), (2, .int s), (3, .int d), (4, .int q), (5, .int p)]) (st' := [.int (-1), .int p]) rfl ?_
  refine mz_ieq (off := 9) (tgt := 17) C (by decide +kernel) (by decide) (fun h1 => ?_) (fun h1 => ?_)
  · refine mz_go FLX9 KLX9 C [(17, .iload_n 2), (18, .iload_n 3)] (by decide +kernel) (pc' := 19) (L' := [(0, .ref 0), (1, .int r), (2, .int s), (3, .int d), (4, .int q), (5, .int p)]) (st' := [.int d, .int s]) rfl ?_
    refine mz_callS (As := [.int s, .int d]) (rest := []) C E' (f_X9_checkTime l D cA ρ hI M s d v3 v4 v5 v6 v7) hs_X9_checkTime wl_X9_117 rfl ⟨Nat.le_of_ble_eq_true rfl, Nat.le_of_ble_eq_true rfl⟩ ⟨Nat.le_refl _, Nat.le_refl _⟩ (Nat.le_of_ble_eq_true rfl) (by decide +kernel) ?_ rfl
    refine mz_go FLX9 KLX9 C [(22, .aload_n 0), (23, .getfield 19), (26, .iload 4)] (by decide +kernel) (pc' := 28) (L' := [(0, .ref 0), (1, .int r), (2, .int s), (3, .int d), (4, .int q), (5, .int p)]) (st' := [.int q, .ref 15]) rfl ?_
    refine mz_callV (As := [.int q]) (rest := []) C E' (mz_liftAR hI (f_X7_areTracks l D cA ρ (mz_I1 hI) M q)) hy_X7_areTracks wl_X9_120 rfl rfl rfl ⟨Nat.le_of_ble_eq_true rfl, Nat.le_of_ble_eq_true rfl⟩ ⟨Nat.le_refl _, Nat.le_refl _⟩ (Nat.le_of_ble_eq_true rfl) (by decide +kernel) ?_ rfl
    refine mz_zne (off := 13) (tgt := 44) C (by decide +kernel) (by decide) (fun _ => ?_) (fun h2 => absurd h2 v8)
    refine mz_go FLX9 KLX9 C [(44, .aload_n 0), (45, .getfield 28), (48, .getfield 126)] (by decide +kernel) (pc' := 51) (L' := [(0, .ref 0), (1, .int r), (2, .int s), (3, .int d), (4, .int q), (5, .int p)]) (st' := [.int (M 30 7)]) rfl ?_
    refine mz_zgt (off := 42) (tgt := 93) C (by decide +kernel) (by decide) (fun h3 => absurd h3 v9) (fun _ => ?_)
    refine mz_go FLX9 KLX9 C [(54, .aload_n 0), (55, .getfield 19), (58, .getfield 129), (61, .bipush 12)] (by decide +kernel) (pc' := 63) (L' := [(0, .ref 0), (1, .int r), (2, .int s), (3, .int d), (4, .int q), (5, .int p)]) (st' := [.int 12, .int (M 15 2)]) rfl ?_
    refine mz_ige (off := 30) (tgt := 93) C (by decide +kernel) (by decide) (fun h4 => absurd h4 v10) (fun _ => ?_)
    refine mz_go FLX9 KLX9 C [(66, .aload_n 0), (67, .getfield 19), (70, .iload 4), (72, .iload_n 2), (73, .iload_n 3)] (by decide +kernel) (pc' := 74) (L' := [(0, .ref 0), (1, .int r), (2, .int s), (3, .int d), (4, .int q), (5, .int p)]) (st' := [.int d, .int s, .int q, .ref 15]) rfl ?_
    refine mz_callV (As := [.int q, .int s, .int d]) (rest := []) C E' (mz_liftAR hI (f_X7_overlapsSceneOf l D cA ρ (mz_I1 hI) M q s d)) hy_X7_overlapsSceneOf wl_X9_132 rfl rfl rfl ⟨Nat.le_of_ble_eq_true rfl, Nat.le_of_ble_eq_true rfl⟩ ⟨Nat.le_refl _, Nat.le_refl _⟩ (Nat.le_of_ble_eq_true rfl) (by decide +kernel) ?_ rfl
    refine mz_zne (off := 16) (tgt := 93) C (by decide +kernel) (by decide) (fun h5 => absurd v11 h5) (fun _ => ?_)
    refine mz_go FLX9 KLX9 C [(80, .aload_n 0), (81, .getfield 28), (84, .getfield 88)] (by decide +kernel) (pc' := 87) (L' := [(0, .ref 0), (1, .int r), (2, .int s), (3, .int d), (4, .int q), (5, .int p)]) (st' := [.ref 33]) rfl ?_
    refine mz_callV (As := []) (rest := []) C E' (mz_liftAR hI (f_X1_anyIsPlayed l D cA ρ (mz_I1 hI) M )) hy_X1_anyIsPlayed wl_X9_136 rfl rfl rfl ⟨Nat.le_of_ble_eq_true rfl, Nat.le_of_ble_eq_true rfl⟩ ⟨Nat.le_refl _, Nat.le_refl _⟩ (Nat.le_of_ble_eq_true rfl) (by decide +kernel) ?_ rfl
    refine mz_zeq (off := 13) (tgt := 103) C (by decide +kernel) (by decide) (fun _ => ?_) (fun h6 => absurd v12 h6)
    refine mz_go FLX9 KLX9 C [(103, .aload_n 0), (104, .getfield 19), (107, .iload_n 1), (108, .iload_n 2), (109, .iload_n 3), (110, .iload 4), (112, .iload 5)] (by decide +kernel) (pc' := 114) (L' := [(0, .ref 0), (1, .int r), (2, .int s), (3, .int d), (4, .int q), (5, .int p)]) (st' := [.int p, .int q, .int d, .int s, .int r, .ref 15]) rfl ?_
    refine mz_callV (As := [.int r, .int s, .int d, .int q, .int p]) (rest := []) C E' (mz_liftA hI (f_X7_addScene l D cA ρ (mz_I1 hI) M r s d q p)) hy_X7_addScene wl_X9_142 rfl rfl rfl ⟨Nat.le_of_ble_eq_true rfl, Nat.le_of_ble_eq_true rfl⟩ ⟨Nat.le_refl _, Nat.le_refl _⟩ (Nat.le_of_ble_eq_true rfl) (by decide +kernel) ?_ rfl
    exact mz_iret C E (by decide +kernel) (by unfold g_X9_scene; rw [if_pos h1]; try rfl) (by unfold g_X9_scene; rw [if_pos h1]; try rfl)
  · refine mz_go FLX9 KLX9 C [(11, .aload_n 0), (12, .iload 5)] (by decide +kernel) (pc' := 14) (L' := [(0, .ref 0), (1, .int r), (2, .int s), (3, .int d), (4, .int q), (5, .int p)]) (st' := [.int p, .ref 0]) rfl ?_
    refine mz_callV (As := [.int p]) (rest := []) C E' (f_X9_checkProp l D cA ρ hI M p (u1 h1) (u2 h1)) hy_X9_checkProp wl_X9_114 rfl rfl rfl ⟨Nat.le_of_ble_eq_true rfl, Nat.le_of_ble_eq_true rfl⟩ ⟨Nat.le_refl _, Nat.le_refl _⟩ (Nat.le_of_ble_eq_true rfl) (by decide +kernel) ?_ rfl
    refine mz_go FLX9 KLX9 C [(17, .iload_n 2), (18, .iload_n 3)] (by decide +kernel) (pc' := 19) (L' := [(0, .ref 0), (1, .int r), (2, .int s), (3, .int d), (4, .int q), (5, .int p)]) (st' := [.int d, .int s]) rfl ?_
    refine mz_callS (As := [.int s, .int d]) (rest := []) C E' (f_X9_checkTime l D cA ρ hI M s d v3 v4 v5 v6 v7) hs_X9_checkTime wl_X9_117 rfl ⟨Nat.le_of_ble_eq_true rfl, Nat.le_of_ble_eq_true rfl⟩ ⟨Nat.le_refl _, Nat.le_refl _⟩ (Nat.le_of_ble_eq_true rfl) (by decide +kernel) ?_ rfl
    refine mz_go FLX9 KLX9 C [(22, .aload_n 0), (23, .getfield 19), (26, .iload 4)] (by decide +kernel) (pc' := 28) (L' := [(0, .ref 0), (1, .int r), (2, .int s), (3, .int d), (4, .int q), (5, .int p)]) (st' := [.int q, .ref 15]) rfl ?_
    refine mz_callV (As := [.int q]) (rest := []) C E' (mz_liftAR hI (f_X7_areTracks l D cA ρ (mz_I1 hI) M q)) hy_X7_areTracks wl_X9_120 rfl rfl rfl ⟨Nat.le_of_ble_eq_true rfl, Nat.le_of_ble_eq_true rfl⟩ ⟨Nat.le_refl _, Nat.le_refl _⟩ (Nat.le_of_ble_eq_true rfl) (by decide +kernel) ?_ rfl
    refine mz_zne (off := 13) (tgt := 44) C (by decide +kernel) (by decide) (fun _ => ?_) (fun h7 => absurd h7 v8)
    refine mz_go FLX9 KLX9 C [(44, .aload_n 0), (45, .getfield 28), (48, .getfield 126)] (by decide +kernel) (pc' := 51) (L' := [(0, .ref 0), (1, .int r), (2, .int s), (3, .int d), (4, .int q), (5, .int p)]) (st' := [.int (M 30 7)]) rfl ?_
    refine mz_zgt (off := 42) (tgt := 93) C (by decide +kernel) (by decide) (fun h8 => absurd h8 v9) (fun _ => ?_)
    refine mz_go FLX9 KLX9 C [(54, .aload_n 0), (55, .getfield 19), (58, .getfield 129), (61, .bipush 12)] (by decide +kernel) (pc' := 63) (L' := [(0, .ref 0), (1, .int r), (2, .int s), (3, .int d), (4, .int q), (5, .int p)]) (st' := [.int 12, .int (M 15 2)]) rfl ?_
    refine mz_ige (off := 30) (tgt := 93) C (by decide +kernel) (by decide) (fun h9 => absurd h9 v10) (fun _ => ?_)
    refine mz_go FLX9 KLX9 C [(66, .aload_n 0), (67, .getfield 19), (70, .iload 4), (72, .iload_n 2), (73, .iload_n 3)] (by decide +kernel) (pc' := 74) (L' := [(0, .ref 0), (1, .int r), (2, .int s), (3, .int d), (4, .int q), (5, .int p)]) (st' := [.int d, .int s, .int q, .ref 15]) rfl ?_
    refine mz_callV (As := [.int q, .int s, .int d]) (rest := []) C E' (mz_liftAR hI (f_X7_overlapsSceneOf l D cA ρ (mz_I1 hI) M q s d)) hy_X7_overlapsSceneOf wl_X9_132 rfl rfl rfl ⟨Nat.le_of_ble_eq_true rfl, Nat.le_of_ble_eq_true rfl⟩ ⟨Nat.le_refl _, Nat.le_refl _⟩ (Nat.le_of_ble_eq_true rfl) (by decide +kernel) ?_ rfl
    refine mz_zne (off := 16) (tgt := 93) C (by decide +kernel) (by decide) (fun h10 => absurd v11 h10) (fun _ => ?_)
    refine mz_go FLX9 KLX9 C [(80, .aload_n 0), (81, .getfield 28), (84, .getfield 88)] (by decide +kernel) (pc' := 87) (L' := [(0, .ref 0), (1, .int r), (2, .int s), (3, .int d), (4, .int q), (5, .int p)]) (st' := [.ref 33]) rfl ?_
    refine mz_callV (As := []) (rest := []) C E' (mz_liftAR hI (f_X1_anyIsPlayed l D cA ρ (mz_I1 hI) M )) hy_X1_anyIsPlayed wl_X9_136 rfl rfl rfl ⟨Nat.le_of_ble_eq_true rfl, Nat.le_of_ble_eq_true rfl⟩ ⟨Nat.le_refl _, Nat.le_refl _⟩ (Nat.le_of_ble_eq_true rfl) (by decide +kernel) ?_ rfl
    refine mz_zeq (off := 13) (tgt := 103) C (by decide +kernel) (by decide) (fun _ => ?_) (fun h11 => absurd v12 h11)
    refine mz_go FLX9 KLX9 C [(103, .aload_n 0), (104, .getfield 19), (107, .iload_n 1), (108, .iload_n 2), (109, .iload_n 3), (110, .iload 4), (112, .iload 5)] (by decide +kernel) (pc' := 114) (L' := [(0, .ref 0), (1, .int r), (2, .int s), (3, .int d), (4, .int q), (5, .int p)]) (st' := [.int p, .int q, .int d, .int s, .int r, .ref 15]) rfl ?_
    refine mz_callV (As := [.int r, .int s, .int d, .int q, .int p]) (rest := []) C E' (mz_liftA hI (f_X7_addScene l D cA ρ (mz_I1 hI) M r s d q p)) hy_X7_addScene wl_X9_142 rfl rfl rfl ⟨Nat.le_of_ble_eq_true rfl, Nat.le_of_ble_eq_true rfl⟩ ⟨Nat.le_refl _, Nat.le_refl _⟩ (Nat.le_of_ble_eq_true rfl) (by decide +kernel) ?_ rfl
    exact mz_iret C E (by decide +kernel) (by unfold g_X9_scene; rw [if_neg h1]; try rfl) (by unfold g_X9_scene; rw [if_neg h1]; try rfl)
def g_X9_habit (M : mz_Mem) (g : Int32) (h : Int32) (t : Int32) : Int32 × mz_Mem := if h = 1 then ((mz_rg 12 (M 64) g), (mz_act M (g_X0_changeHabit M g h t))) else ((mz_rg 12 (M 64) g), (mz_act M (g_X0_changeHabit M g h t)))
theorem g_X9_habit_hs (M : mz_Mem) (g : Int32) (h : Int32) (t : Int32) : mz_hs M (g_X9_habit M g h t).2 := by
  unfold g_X9_habit
  by_cases h1 : h = 1
  · rw [if_pos h1]
    exact mz_hs_act (g_X0_changeHabit_hs M g h t)
  · rw [if_neg h1]
    exact mz_hs_act (g_X0_changeHabit_hs M g h t)

set_option maxHeartbeats 4000000 in
theorem f_X9_habit (l : Launch) (D : va_G) (cA : ClassId) (ρ : Nat → Nat) (hI : mz_I ρ mz_lay2) (M : mz_Mem) (g : Int32) (h : Int32) (t : Int32) (v1 : ¬ g < 0) (v2 : g < (M 60 0)) (v3 : ¬ h < 0) (v4 : h ≤ 3) (u1 : h = 1 → ¬ t < 0) (u2 : h = 1 → t < (M 15 0)) : mz_M l D vwCl cA ρ mz_lay2 yX9_habit cX9_habit 5 (some .int) 2 45 [.ref 0, .int g, .int h, .int t] M (some (.int (g_X9_habit M g h t).1)) (g_X9_habit M g h t).2 := by
  refine mz_in0 (by decide +kernel) (Nat.le_of_ble_eq_true rfl) (fun Γ C E => ?_)
  have E' := (⟨_, _, _, E⟩ : ∃ Qc mc ms, mz_E Γ Qc mc ms (mz_A ρ mz_lay2))
  refine mz_go FLX9 KLX9 C [(0, .aload_n 0), (1, .iload_n 1)] (by decide +kernel) (pc' := 2) (L' := [(0, .ref 0), (1, .int g), (2, .int h), (3, .int t)]) (st' := [.int g, .ref 0]) rfl ?_
  refine mz_callV (As := [.int g]) (rest := []) C E' (f_X9_checkGuest l D cA ρ hI M g v1 v2) hy_X9_checkGuest wl_X9_162 rfl rfl rfl ⟨Nat.le_of_ble_eq_true rfl, Nat.le_of_ble_eq_true rfl⟩ ⟨Nat.le_refl _, Nat.le_refl _⟩ (Nat.le_of_ble_eq_true rfl) (by decide +kernel) ?_ rfl
  refine mz_go FLX9 KLX9 C [(5, .iload_n 2), (6, .iconst 1)] (by decide +kernel) (pc' := 7) (L' := [(0, .ref 0), (1, .int g), (2, .int h), (3, .int t)]) (st' := [.int 1, .int h]) rfl ?_
  refine mz_ine (off := 8) (tgt := 15) C (by decide +kernel) (by decide) (fun h1 => ?_) (fun h1 => ?_)
  · refine mz_go FLX9 KLX9 C [(15, .iload_n 2)] (by decide +kernel) (pc' := 16) (L' := [(0, .ref 0), (1, .int g), (2, .int h), (3, .int t)]) (st' := [.int h]) rfl ?_
    refine mz_zlt (off := 8) (tgt := 24) C (by decide +kernel) (by decide) (fun h2 => absurd h2 v3) (fun _ => ?_)
    refine mz_go FLX9 KLX9 C [(19, .iload_n 2), (20, .iconst 3)] (by decide +kernel) (pc' := 21) (L' := [(0, .ref 0), (1, .int g), (2, .int h), (3, .int t)]) (st' := [.int 3, .int h]) rfl ?_
    refine mz_ile (off := 13) (tgt := 34) C (by decide +kernel) (by decide) (fun _ => ?_) (fun h3 => absurd v4 h3)
    refine mz_go FLX9 KLX9 C [(34, .aload_n 0), (35, .getfield 28), (38, .getfield 146), (41, .getfield 170), (44, .iload_n 1)] (by decide +kernel) (pc' := 45) (L' := [(0, .ref 0), (1, .int g), (2, .int h), (3, .int t)]) (st' := [.int g, .ref 63]) rfl ?_
    refine mz_callV (As := [.int g]) (rest := []) C E' (f_Row_get l D cA ρ hI (r := 63) (a := 64) (n := 12) rfl rfl (by decide) M g) hy_X6_get wl_X9_174 rfl rfl rfl ⟨Nat.le_of_ble_eq_true rfl, Nat.le_of_ble_eq_true rfl⟩ ⟨Nat.le_refl _, Nat.le_refl _⟩ (Nat.le_of_ble_eq_true rfl) (by decide +kernel) ?_ rfl
    refine mz_go FLX9 KLX9 C [(48, .istore 4), (50, .aload_n 0), (51, .getfield 28), (54, .getfield 146), (57, .iload_n 1), (58, .iload_n 2), (59, .iload_n 3)] (by decide +kernel) (pc' := 60) (L' := [(4, .int (mz_rg 12 (M 64) g)), (0, .ref 0), (1, .int g), (2, .int h), (3, .int t)]) (st' := [.int t, .int h, .int g, .ref 60]) rfl ?_
    refine mz_callV (As := [.int g, .int h, .int t]) (rest := []) C E' (mz_liftA hI (f_X0_changeHabit l D cA ρ (mz_I1 hI) M g h t)) hy_X0_changeHabit wl_X9_178 rfl rfl rfl ⟨Nat.le_of_ble_eq_true rfl, Nat.le_of_ble_eq_true rfl⟩ ⟨Nat.le_refl _, Nat.le_refl _⟩ (Nat.le_of_ble_eq_true rfl) (by decide +kernel) ?_ rfl
    refine mz_go FLX9 KLX9 C [(63, .iload 4)] (by decide +kernel) (pc' := 65) (L' := [(4, .int (mz_rg 12 (M 64) g)), (0, .ref 0), (1, .int g), (2, .int h), (3, .int t)]) (st' := [.int (mz_rg 12 (M 64) g)]) rfl ?_
    exact mz_iret C E (by decide +kernel) (by unfold g_X9_habit; rw [if_neg h1]; try rfl) (by unfold g_X9_habit; rw [if_neg h1]; try rfl)
  · refine mz_go FLX9 KLX9 C [(10, .aload_n 0), (11, .iload_n 3)] (by decide +kernel) (pc' := 12) (L' := [(0, .ref 0), (1, .int g), (2, .int h), (3, .int t)]) (st' := [.int t, .ref 0]) rfl ?_
    refine mz_callV (As := [.int t]) (rest := []) C E' (f_X9_checkTrack l D cA ρ hI M t (u1 h1) (u2 h1)) hy_X9_checkTrack wl_X9_165 rfl rfl rfl ⟨Nat.le_of_ble_eq_true rfl, Nat.le_of_ble_eq_true rfl⟩ ⟨Nat.le_refl _, Nat.le_refl _⟩ (Nat.le_of_ble_eq_true rfl) (by decide +kernel) ?_ rfl
    refine mz_go FLX9 KLX9 C [(15, .iload_n 2)] (by decide +kernel) (pc' := 16) (L' := [(0, .ref 0), (1, .int g), (2, .int h), (3, .int t)]) (st' := [.int h]) rfl ?_
    refine mz_zlt (off := 8) (tgt := 24) C (by decide +kernel) (by decide) (fun h4 => absurd h4 v3) (fun _ => ?_)
    refine mz_go FLX9 KLX9 C [(19, .iload_n 2), (20, .iconst 3)] (by decide +kernel) (pc' := 21) (L' := [(0, .ref 0), (1, .int g), (2, .int h), (3, .int t)]) (st' := [.int 3, .int h]) rfl ?_
    refine mz_ile (off := 13) (tgt := 34) C (by decide +kernel) (by decide) (fun _ => ?_) (fun h5 => absurd v4 h5)
    refine mz_go FLX9 KLX9 C [(34, .aload_n 0), (35, .getfield 28), (38, .getfield 146), (41, .getfield 170), (44, .iload_n 1)] (by decide +kernel) (pc' := 45) (L' := [(0, .ref 0), (1, .int g), (2, .int h), (3, .int t)]) (st' := [.int g, .ref 63]) rfl ?_
    refine mz_callV (As := [.int g]) (rest := []) C E' (f_Row_get l D cA ρ hI (r := 63) (a := 64) (n := 12) rfl rfl (by decide) M g) hy_X6_get wl_X9_174 rfl rfl rfl ⟨Nat.le_of_ble_eq_true rfl, Nat.le_of_ble_eq_true rfl⟩ ⟨Nat.le_refl _, Nat.le_refl _⟩ (Nat.le_of_ble_eq_true rfl) (by decide +kernel) ?_ rfl
    refine mz_go FLX9 KLX9 C [(48, .istore 4), (50, .aload_n 0), (51, .getfield 28), (54, .getfield 146), (57, .iload_n 1), (58, .iload_n 2), (59, .iload_n 3)] (by decide +kernel) (pc' := 60) (L' := [(4, .int (mz_rg 12 (M 64) g)), (0, .ref 0), (1, .int g), (2, .int h), (3, .int t)]) (st' := [.int t, .int h, .int g, .ref 60]) rfl ?_
    refine mz_callV (As := [.int g, .int h, .int t]) (rest := []) C E' (mz_liftA hI (f_X0_changeHabit l D cA ρ (mz_I1 hI) M g h t)) hy_X0_changeHabit wl_X9_178 rfl rfl rfl ⟨Nat.le_of_ble_eq_true rfl, Nat.le_of_ble_eq_true rfl⟩ ⟨Nat.le_refl _, Nat.le_refl _⟩ (Nat.le_of_ble_eq_true rfl) (by decide +kernel) ?_ rfl
    refine mz_go FLX9 KLX9 C [(63, .iload 4)] (by decide +kernel) (pc' := 65) (L' := [(4, .int (mz_rg 12 (M 64) g)), (0, .ref 0), (1, .int g), (2, .int h), (3, .int t)]) (st' := [.int (mz_rg 12 (M 64) g)]) rfl ?_
    exact mz_iret C E (by decide +kernel) (by unfold g_X9_habit; rw [if_pos h1]; try rfl) (by unfold g_X9_habit; rw [if_pos h1]; try rfl)
def g_X9_play (M : mz_Mem) (t : Int32) (b : Int32) : Int32 × mz_Mem := ((g_X7_countScenesOf (mz_act M (g_X1_startDouble M t b)) ((1 <<< (t &&& 31)) ||| (1 <<< (b &&& 31)))), (mz_act M (g_X1_startDouble M t b)))
theorem g_X9_play_hs (M : mz_Mem) (t : Int32) (b : Int32) : mz_hs M (g_X9_play M t b).2 := by
  unfold g_X9_play
  exact mz_hs_act (g_X1_startDouble_hs M t b)

set_option maxHeartbeats 4000000 in
theorem f_X9_play (l : Launch) (D : va_G) (cA : ClassId) (ρ : Nat → Nat) (hI : mz_I ρ mz_lay2) (M : mz_Mem) (t : Int32) (b : Int32) (v1 : ¬ t < 0) (v2 : t < (M 15 0)) (v3 : ¬ b < 0) (v4 : b < (M 15 0)) (v5 : ¬ t = b) (v6 : ¬ (g_X2_canDouble M t b) = 0) : mz_M l D vwCl cA ρ mz_lay2 yX9_play cX9_play 3 (some .int) 4 93 [.ref 0, .int t, .int b] M (some (.int (g_X9_play M t b).1)) (g_X9_play M t b).2 := by
  refine mz_in0 (by decide +kernel) (Nat.le_of_ble_eq_true rfl) (fun Γ C E => ?_)
  have E' := (⟨_, _, _, E⟩ : ∃ Qc mc ms, mz_E Γ Qc mc ms (mz_A ρ mz_lay2))
  refine mz_go FLX9 KLX9 C [(0, .aload_n 0), (1, .iload_n 1)] (by decide +kernel) (pc' := 2) (L' := [(0, .ref 0), (1, .int t), (2, .int b)]) (st' := [.int t, .ref 0]) rfl ?_
  refine mz_callV (As := [.int t]) (rest := []) C E' (f_X9_checkTrack l D cA ρ hI M t v1 v2) hy_X9_checkTrack wl_X9_165 rfl rfl rfl ⟨Nat.le_of_ble_eq_true rfl, Nat.le_of_ble_eq_true rfl⟩ ⟨Nat.le_refl _, Nat.le_refl _⟩ (Nat.le_of_ble_eq_true rfl) (by decide +kernel) ?_ rfl
  refine mz_go FLX9 KLX9 C [(5, .aload_n 0), (6, .iload_n 2)] (by decide +kernel) (pc' := 7) (L' := [(0, .ref 0), (1, .int t), (2, .int b)]) (st' := [.int b, .ref 0]) rfl ?_
  refine mz_callV (As := [.int b]) (rest := []) C E' (f_X9_checkTrack l D cA ρ hI M b v3 v4) hy_X9_checkTrack wl_X9_165 rfl rfl rfl ⟨Nat.le_of_ble_eq_true rfl, Nat.le_of_ble_eq_true rfl⟩ ⟨Nat.le_refl _, Nat.le_refl _⟩ (Nat.le_of_ble_eq_true rfl) (by decide +kernel) ?_ rfl
  refine mz_go FLX9 KLX9 C [(10, .iload_n 1), (11, .iload_n 2)] (by decide +kernel) (pc' := 12) (L' := [(0, .ref 0), (1, .int t), (2, .int b)]) (st' := [.int b, .int t]) rfl ?_
  refine mz_ine (off := 13) (tgt := 25) C (by decide +kernel) (by decide) (fun _ => ?_) (fun h1 => absurd h1 v5)
  refine mz_go FLX9 KLX9 C [(25, .aload_n 0), (26, .getfield 28), (29, .iload_n 1), (30, .iload_n 2)] (by decide +kernel) (pc' := 31) (L' := [(0, .ref 0), (1, .int t), (2, .int b)]) (st' := [.int b, .int t, .ref 30]) rfl ?_
  refine mz_callV (As := [.int t, .int b]) (rest := []) C E' (mz_liftAR hI (f_X2_canDouble l D cA ρ (mz_I1 hI) M t b)) hy_X2_canDouble wl_X9_230 rfl rfl rfl ⟨Nat.le_of_ble_eq_true rfl, Nat.le_of_ble_eq_true rfl⟩ ⟨Nat.le_refl _, Nat.le_refl _⟩ (Nat.le_of_ble_eq_true rfl) (by decide +kernel) ?_ rfl
  refine mz_zne (off := 13) (tgt := 47) C (by decide +kernel) (by decide) (fun _ => ?_) (fun h2 => absurd h2 v6)
  refine mz_go FLX9 KLX9 C [(47, .aload_n 0), (48, .getfield 28), (51, .getfield 88), (54, .iload_n 1), (55, .iload_n 2)] (by decide +kernel) (pc' := 56) (L' := [(0, .ref 0), (1, .int t), (2, .int b)]) (st' := [.int b, .int t, .ref 33]) rfl ?_
  refine mz_callV (As := [.int t, .int b]) (rest := []) C E' (mz_liftA hI (f_X1_startDouble l D cA ρ (mz_I1 hI) M t b)) hy_X1_startDouble wl_X9_235 rfl rfl rfl ⟨Nat.le_of_ble_eq_true rfl, Nat.le_of_ble_eq_true rfl⟩ ⟨Nat.le_refl _, Nat.le_refl _⟩ (Nat.le_of_ble_eq_true rfl) (by decide +kernel) ?_ rfl
  refine mz_go FLX9 KLX9 C [(59, .aload_n 0), (60, .getfield 19), (63, .iconst 1), (64, .iload_n 1), (65, .ishl), (66, .iconst 1), (67, .iload_n 2), (68, .ishl), (69, .ior)] (by decide +kernel) (pc' := 70) (L' := [(0, .ref 0), (1, .int t), (2, .int b)]) (st' := [.int ((1 <<< (t &&& 31)) ||| (1 <<< (b &&& 31))), .ref 15]) rfl ?_
  refine mz_callV (As := [.int ((1 <<< (t &&& 31)) ||| (1 <<< (b &&& 31)))]) (rest := []) C E' (mz_liftAR hI (f_X7_countScenesOf l D cA ρ (mz_I1 hI) (mz_act M (g_X1_startDouble M t b)) ((1 <<< (t &&& 31)) ||| (1 <<< (b &&& 31))))) hy_X7_countScenesOf wl_X9_238 rfl rfl rfl ⟨Nat.le_of_ble_eq_true rfl, Nat.le_of_ble_eq_true rfl⟩ ⟨Nat.le_refl _, Nat.le_refl _⟩ (Nat.le_of_ble_eq_true rfl) (by decide +kernel) ?_ rfl
  exact mz_iret C E (by decide +kernel) (rfl) (rfl)
def g_X9_part (M : mz_Mem) (t : Int32) : Int32 × mz_Mem := ((mz_rg 5 (M 37) t), (mz_act M (g_X1_endDouble M t)))
theorem g_X9_part_hs (M : mz_Mem) (t : Int32) : mz_hs M (g_X9_part M t).2 := by
  unfold g_X9_part
  exact mz_hs_act (g_X1_endDouble_hs M t)

set_option maxHeartbeats 4000000 in
theorem f_X9_part (l : Launch) (D : va_G) (cA : ClassId) (ρ : Nat → Nat) (hI : mz_I ρ mz_lay2) (M : mz_Mem) (t : Int32) (v1 : ¬ t < 0) (v2 : t < (M 15 0)) (v3 : ¬ (mz_rg 5 (M 37) t) = (-1)) (v4 : ((g_X8_busyTracks M) &&& ((1 <<< (t &&& 31)) ||| (1 <<< ((mz_rg 5 (M 37) t) &&& 31)))) = 0) : mz_M l D vwCl cA ρ mz_lay2 yX9_part cX9_part 3 (some .int) 2 43 [.ref 0, .int t] M (some (.int (g_X9_part M t).1)) (g_X9_part M t).2 := by
  refine mz_in0 (by decide +kernel) (Nat.le_of_ble_eq_true rfl) (fun Γ C E => ?_)
  have E' := (⟨_, _, _, E⟩ : ∃ Qc mc ms, mz_E Γ Qc mc ms (mz_A ρ mz_lay2))
  refine mz_go FLX9 KLX9 C [(0, .aload_n 0), (1, .iload_n 1)] (by decide +kernel) (pc' := 2) (L' := [(0, .ref 0), (1, .int t)]) (st' := [.int t, .ref 0]) rfl ?_
  refine mz_callV (As := [.int t]) (rest := []) C E' (f_X9_checkTrack l D cA ρ hI M t v1 v2) hy_X9_checkTrack wl_X9_165 rfl rfl rfl ⟨Nat.le_of_ble_eq_true rfl, Nat.le_of_ble_eq_true rfl⟩ ⟨Nat.le_refl _, Nat.le_refl _⟩ (Nat.le_of_ble_eq_true rfl) (by decide +kernel) ?_ rfl
  refine mz_go FLX9 KLX9 C [(5, .aload_n 0), (6, .getfield 28), (9, .getfield 88), (12, .getfield 241), (15, .iload_n 1)] (by decide +kernel) (pc' := 16) (L' := [(0, .ref 0), (1, .int t)]) (st' := [.int t, .ref 36]) rfl ?_
  refine mz_callV (As := [.int t]) (rest := []) C E' (f_Row_get l D cA ρ hI (r := 36) (a := 37) (n := 5) rfl rfl (by decide) M t) hy_X6_get wl_X9_174 rfl rfl rfl ⟨Nat.le_of_ble_eq_true rfl, Nat.le_of_ble_eq_true rfl⟩ ⟨Nat.le_refl _, Nat.le_refl _⟩ (Nat.le_of_ble_eq_true rfl) (by decide +kernel) ?_ rfl
  refine mz_go FLX9 KLX9 C [(19, .istore_n 2), (20, .iload_n 2), (21, .iconst (-1))] (by decide +kernel) (pc' := 22) (L' := [(2, .int (mz_rg 5 (M 37) t)), (0, .ref 0), (1, .int t)]) (st' := [.int (-1), .int (mz_rg 5 (M 37) t)]) rfl ?_
  refine mz_ieq (off := 24) (tgt := 46) C (by decide +kernel) (by decide) (fun h1 => absurd h1 v3) (fun _ => ?_)
  refine mz_go FLX9 KLX9 C [(25, .aload_n 0), (26, .getfield 28), (29, .getfield 187)] (by decide +kernel) (pc' := 32) (L' := [(2, .int (mz_rg 5 (M 37) t)), (0, .ref 0), (1, .int t)]) (st' := [.ref 40]) rfl ?_
  refine mz_callV (As := []) (rest := []) C E' (mz_liftAR hI (f_X8_busyTracks l D cA ρ (mz_I1 hI) M )) hy_X8_busyTracks wl_X9_244 rfl rfl rfl ⟨Nat.le_of_ble_eq_true rfl, Nat.le_of_ble_eq_true rfl⟩ ⟨Nat.le_refl _, Nat.le_refl _⟩ (Nat.le_of_ble_eq_true rfl) (by decide +kernel) ?_ rfl
  refine mz_go FLX9 KLX9 C [(35, .iconst 1), (36, .iload_n 1), (37, .ishl), (38, .iconst 1), (39, .iload_n 2), (40, .ishl), (41, .ior), (42, .iand)] (by decide +kernel) (pc' := 43) (L' := [(2, .int (mz_rg 5 (M 37) t)), (0, .ref 0), (1, .int t)]) (st' := [.int ((g_X8_busyTracks M) &&& ((1 <<< (t &&& 31)) ||| (1 <<< ((mz_rg 5 (M 37) t) &&& 31))))]) rfl ?_
  refine mz_zeq (off := 13) (tgt := 56) C (by decide +kernel) (by decide) (fun _ => ?_) (fun h2 => absurd v4 h2)
  refine mz_go FLX9 KLX9 C [(56, .aload_n 0), (57, .getfield 28), (60, .getfield 88), (63, .iload_n 1)] (by decide +kernel) (pc' := 64) (L' := [(2, .int (mz_rg 5 (M 37) t)), (0, .ref 0), (1, .int t)]) (st' := [.int t, .ref 33]) rfl ?_
  refine mz_callV (As := [.int t]) (rest := []) C E' (mz_liftA hI (f_X1_endDouble l D cA ρ (mz_I1 hI) M t)) hy_X1_endDouble wl_X9_249 rfl rfl rfl ⟨Nat.le_of_ble_eq_true rfl, Nat.le_of_ble_eq_true rfl⟩ ⟨Nat.le_refl _, Nat.le_refl _⟩ (Nat.le_of_ble_eq_true rfl) (by decide +kernel) ?_ rfl
  refine mz_go FLX9 KLX9 C [(67, .iload_n 2)] (by decide +kernel) (pc' := 68) (L' := [(2, .int (mz_rg 5 (M 37) t)), (0, .ref 0), (1, .int t)]) (st' := [.int (mz_rg 5 (M 37) t)]) rfl ?_
  exact mz_iret C E (by decide +kernel) (rfl) (rfl)
end
